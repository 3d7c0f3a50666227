section
-- ===== PART A: goes FIRST, ahead of the names: the tables' words, and 'selects' of the private methods out of them =====
/-- a private method of a class that the tables say can be made, by its rows of tables_1 -/
def lw_okq (q : MethodName × Nat) : Prop := (q.1.cls ≠ "java/lang/invoke/MethodHandle" ∧ q.1.cls ≠ "java/lang/invoke/VarHandle") ∧ Cond.instantiable q.1.cls q.2 ∈ tables_1 ∧ Cond.privateMethod q.1 ∈ tables_1 ∧ Cond.instanceMethod q.1 ∈ tables_1
theorem lw_p0 : lw_okq (⟨"java/lang/Throwable", "fillInStackTrace", "(I)Ljava/lang/Throwable;"⟩, 6) := ⟨⟨by decide +kernel, by decide +kernel⟩, List.mem_of_getElem? (i := 92) (by decide +kernel), List.mem_of_getElem? (i := 90) (by decide +kernel), List.mem_of_getElem? (i := 91) (by decide +kernel)⟩
theorem lw_p1 : lw_okq (⟨"WholeRegisters", "keepResult", "(II)V"⟩, 6) := ⟨⟨by decide +kernel, by decide +kernel⟩, List.mem_of_getElem? (i := 13) (by decide +kernel), List.mem_of_getElem? (i := 125) (by decide +kernel), List.mem_of_getElem? (i := 126) (by decide +kernel)⟩
theorem lw_p2 : lw_okq (⟨"WholeRegisters", "putSum", "(IIII)V"⟩, 6) := ⟨⟨by decide +kernel, by decide +kernel⟩, List.mem_of_getElem? (i := 13) (by decide +kernel), List.mem_of_getElem? (i := 177) (by decide +kernel), List.mem_of_getElem? (i := 178) (by decide +kernel)⟩
theorem lw_p3 : lw_okq (⟨"WholeRegisters", "addSizes", "(II)V"⟩, 6) := ⟨⟨by decide +kernel, by decide +kernel⟩, List.mem_of_getElem? (i := 13) (by decide +kernel), List.mem_of_getElem? (i := 181) (by decide +kernel), List.mem_of_getElem? (i := 182) (by decide +kernel)⟩
theorem lw_p4 : lw_okq (⟨"WholeRegisters", "checkResultFits", "()V"⟩, 6) := ⟨⟨by decide +kernel, by decide +kernel⟩, List.mem_of_getElem? (i := 13) (by decide +kernel), List.mem_of_getElem? (i := 189) (by decide +kernel), List.mem_of_getElem? (i := 190) (by decide +kernel)⟩
theorem lw_p5 : lw_okq (⟨"WholeRegisters", "orderOfSizes", "(II)I"⟩, 6) := ⟨⟨by decide +kernel, by decide +kernel⟩, List.mem_of_getElem? (i := 13) (by decide +kernel), List.mem_of_getElem? (i := 193) (by decide +kernel), List.mem_of_getElem? (i := 194) (by decide +kernel)⟩
theorem lw_p6 : lw_okq (⟨"WholeRegisters", "subtractSizes", "(II)V"⟩, 6) := ⟨⟨by decide +kernel, by decide +kernel⟩, List.mem_of_getElem? (i := 13) (by decide +kernel), List.mem_of_getElem? (i := 197) (by decide +kernel), List.mem_of_getElem? (i := 198) (by decide +kernel)⟩
theorem lw_p7 : lw_okq (⟨"WholeRegisters", "multiplySizes", "(II)V"⟩, 6) := ⟨⟨by decide +kernel, by decide +kernel⟩, List.mem_of_getElem? (i := 13) (by decide +kernel), List.mem_of_getElem? (i := 215) (by decide +kernel), List.mem_of_getElem? (i := 216) (by decide +kernel)⟩
theorem lw_p8 : lw_okq (⟨"WholeRegisters", "addMultiple", "(IIJ)V"⟩, 6) := ⟨⟨by decide +kernel, by decide +kernel⟩, List.mem_of_getElem? (i := 13) (by decide +kernel), List.mem_of_getElem? (i := 219) (by decide +kernel), List.mem_of_getElem? (i := 220) (by decide +kernel)⟩
theorem lw_p9 : lw_okq (⟨"WholeRegisters", "bitsOf", "(I)I"⟩, 6) := ⟨⟨by decide +kernel, by decide +kernel⟩, List.mem_of_getElem? (i := 13) (by decide +kernel), List.mem_of_getElem? (i := 248) (by decide +kernel), List.mem_of_getElem? (i := 249) (by decide +kernel)⟩
theorem lw_p10 : lw_okq (⟨"WholeRegisters", "divideSizes", "(III)V"⟩, 6) := ⟨⟨by decide +kernel, by decide +kernel⟩, List.mem_of_getElem? (i := 13) (by decide +kernel), List.mem_of_getElem? (i := 255) (by decide +kernel), List.mem_of_getElem? (i := 256) (by decide +kernel)⟩
theorem lw_p11 : lw_okq (⟨"WholeRegisters", "moveUp", "(II[I)V"⟩, 6) := ⟨⟨by decide +kernel, by decide +kernel⟩, List.mem_of_getElem? (i := 13) (by decide +kernel), List.mem_of_getElem? (i := 259) (by decide +kernel), List.mem_of_getElem? (i := 260) (by decide +kernel)⟩
theorem lw_p12 : lw_okq (⟨"WholeRegisters", "takeQuotientDigit", "(II)I"⟩, 6) := ⟨⟨by decide +kernel, by decide +kernel⟩, List.mem_of_getElem? (i := 13) (by decide +kernel), List.mem_of_getElem? (i := 263) (by decide +kernel), List.mem_of_getElem? (i := 264) (by decide +kernel)⟩
theorem lw_p13 : lw_okq (⟨"WholeRegisters", "guessDigit", "(II)J"⟩, 6) := ⟨⟨by decide +kernel, by decide +kernel⟩, List.mem_of_getElem? (i := 13) (by decide +kernel), List.mem_of_getElem? (i := 267) (by decide +kernel), List.mem_of_getElem? (i := 268) (by decide +kernel)⟩
theorem lw_p14 : lw_okq (⟨"WholeRegisters", "takeMultiple", "(IIIJ)Z"⟩, 6) := ⟨⟨by decide +kernel, by decide +kernel⟩, List.mem_of_getElem? (i := 13) (by decide +kernel), List.mem_of_getElem? (i := 281) (by decide +kernel), List.mem_of_getElem? (i := 282) (by decide +kernel)⟩
theorem lw_p15 : lw_okq (⟨"WholeRegisters", "giveBack", "(IIIJ)Z"⟩, 6) := ⟨⟨by decide +kernel, by decide +kernel⟩, List.mem_of_getElem? (i := 13) (by decide +kernel), List.mem_of_getElem? (i := 285) (by decide +kernel), List.mem_of_getElem? (i := 286) (by decide +kernel)⟩
def lw_privs_1 : List (MethodName × Nat) := [(⟨"java/lang/Throwable", "fillInStackTrace", "(I)Ljava/lang/Throwable;"⟩, 6), (⟨"WholeRegisters", "keepResult", "(II)V"⟩, 6), (⟨"WholeRegisters", "putSum", "(IIII)V"⟩, 6), (⟨"WholeRegisters", "addSizes", "(II)V"⟩, 6), (⟨"WholeRegisters", "checkResultFits", "()V"⟩, 6), (⟨"WholeRegisters", "orderOfSizes", "(II)I"⟩, 6), (⟨"WholeRegisters", "subtractSizes", "(II)V"⟩, 6), (⟨"WholeRegisters", "multiplySizes", "(II)V"⟩, 6), (⟨"WholeRegisters", "addMultiple", "(IIJ)V"⟩, 6), (⟨"WholeRegisters", "bitsOf", "(I)I"⟩, 6), (⟨"WholeRegisters", "divideSizes", "(III)V"⟩, 6), (⟨"WholeRegisters", "moveUp", "(II[I)V"⟩, 6), (⟨"WholeRegisters", "takeQuotientDigit", "(II)I"⟩, 6), (⟨"WholeRegisters", "guessDigit", "(II)J"⟩, 6), (⟨"WholeRegisters", "takeMultiple", "(IIIJ)Z"⟩, 6), (⟨"WholeRegisters", "giveBack", "(IIIJ)Z"⟩, 6)]
theorem lw_r1 : ∀ q ∈ lw_privs_1, lw_okq q := List.forall_mem_cons.mpr ⟨lw_p0, List.forall_mem_cons.mpr ⟨lw_p1, List.forall_mem_cons.mpr ⟨lw_p2, List.forall_mem_cons.mpr ⟨lw_p3, List.forall_mem_cons.mpr ⟨lw_p4, List.forall_mem_cons.mpr ⟨lw_p5, List.forall_mem_cons.mpr ⟨lw_p6, List.forall_mem_cons.mpr ⟨lw_p7, List.forall_mem_cons.mpr ⟨lw_p8, List.forall_mem_cons.mpr ⟨lw_p9, List.forall_mem_cons.mpr ⟨lw_p10, List.forall_mem_cons.mpr ⟨lw_p11, List.forall_mem_cons.mpr ⟨lw_p12, List.forall_mem_cons.mpr ⟨lw_p13, List.forall_mem_cons.mpr ⟨lw_p14, List.forall_mem_cons.mpr ⟨lw_p15, fun _ h => absurd h List.not_mem_nil⟩⟩⟩⟩⟩⟩⟩⟩⟩⟩⟩⟩⟩⟩⟩⟩
theorem lw_p16 : lw_okq (⟨"WholeRegisters", "moveDown", "([III)V"⟩, 6) := ⟨⟨by decide +kernel, by decide +kernel⟩, List.mem_of_getElem? (i := 13) (by decide +kernel), List.mem_of_getElem? (i := 289) (by decide +kernel), List.mem_of_getElem? (i := 290) (by decide +kernel)⟩
theorem lw_p17 : lw_okq (⟨"WholeRegisters", "takeRootOfSize", "(I)V"⟩, 6) := ⟨⟨by decide +kernel, by decide +kernel⟩, List.mem_of_getElem? (i := 13) (by decide +kernel), List.mem_of_getElem? (i := 301) (by decide +kernel), List.mem_of_getElem? (i := 302) (by decide +kernel)⟩
theorem lw_p18 : lw_okq (⟨"WholeRegisters", "takeFirstRootDigit", "(I)V"⟩, 6) := ⟨⟨by decide +kernel, by decide +kernel⟩, List.mem_of_getElem? (i := 13) (by decide +kernel), List.mem_of_getElem? (i := 305) (by decide +kernel), List.mem_of_getElem? (i := 306) (by decide +kernel)⟩
theorem lw_p19 : lw_okq (⟨"WholeRegisters", "takeRootDigit", "(II)V"⟩, 6) := ⟨⟨by decide +kernel, by decide +kernel⟩, List.mem_of_getElem? (i := 13) (by decide +kernel), List.mem_of_getElem? (i := 312) (by decide +kernel), List.mem_of_getElem? (i := 313) (by decide +kernel)⟩
theorem lw_p20 : lw_okq (⟨"WholeRegistersModel", "clear", "(I)V"⟩, 3) := ⟨⟨by decide +kernel, by decide +kernel⟩, List.mem_of_getElem? (i := 360) (by decide +kernel), List.mem_of_getElem? (i := 388) (by decide +kernel), List.mem_of_getElem? (i := 389) (by decide +kernel)⟩
theorem lw_p21 : lw_okq (⟨"WholeRegistersModel", "put", "(III)V"⟩, 3) := ⟨⟨by decide +kernel, by decide +kernel⟩, List.mem_of_getElem? (i := 360) (by decide +kernel), List.mem_of_getElem? (i := 392) (by decide +kernel), List.mem_of_getElem? (i := 393) (by decide +kernel)⟩
theorem lw_p22 : lw_okq (⟨"WholeRegistersModel", "get", "(II)I"⟩, 3) := ⟨⟨by decide +kernel, by decide +kernel⟩, List.mem_of_getElem? (i := 360) (by decide +kernel), List.mem_of_getElem? (i := 401) (by decide +kernel), List.mem_of_getElem? (i := 402) (by decide +kernel)⟩
theorem lw_p23 : lw_okq (⟨"WholeRegistersModel", "give", "(I)V"⟩, 3) := ⟨⟨by decide +kernel, by decide +kernel⟩, List.mem_of_getElem? (i := 360) (by decide +kernel), List.mem_of_getElem? (i := 405) (by decide +kernel), List.mem_of_getElem? (i := 406) (by decide +kernel)⟩
theorem lw_p24 : lw_okq (⟨"WholeRegistersModel", "length", "(I)I"⟩, 3) := ⟨⟨by decide +kernel, by decide +kernel⟩, List.mem_of_getElem? (i := 360) (by decide +kernel), List.mem_of_getElem? (i := 409) (by decide +kernel), List.mem_of_getElem? (i := 410) (by decide +kernel)⟩
theorem lw_p25 : lw_okq (⟨"WholeRegistersModel", "move", "(II)V"⟩, 3) := ⟨⟨by decide +kernel, by decide +kernel⟩, List.mem_of_getElem? (i := 360) (by decide +kernel), List.mem_of_getElem? (i := 413) (by decide +kernel), List.mem_of_getElem? (i := 414) (by decide +kernel)⟩
theorem lw_p26 : lw_okq (⟨"WholeRegistersModel", "take", "(III)Z"⟩, 3) := ⟨⟨by decide +kernel, by decide +kernel⟩, List.mem_of_getElem? (i := 360) (by decide +kernel), List.mem_of_getElem? (i := 429) (by decide +kernel), List.mem_of_getElem? (i := 430) (by decide +kernel)⟩
theorem lw_p27 : lw_okq (⟨"WholeRegistersModel", "sum", "()V"⟩, 3) := ⟨⟨by decide +kernel, by decide +kernel⟩, List.mem_of_getElem? (i := 360) (by decide +kernel), List.mem_of_getElem? (i := 433) (by decide +kernel), List.mem_of_getElem? (i := 434) (by decide +kernel)⟩
theorem lw_p28 : lw_okq (⟨"WholeRegistersModel", "order", "(II)I"⟩, 3) := ⟨⟨by decide +kernel, by decide +kernel⟩, List.mem_of_getElem? (i := 360) (by decide +kernel), List.mem_of_getElem? (i := 437) (by decide +kernel), List.mem_of_getElem? (i := 438) (by decide +kernel)⟩
theorem lw_p29 : lw_okq (⟨"WholeRegistersModel", "less", "(III)V"⟩, 3) := ⟨⟨by decide +kernel, by decide +kernel⟩, List.mem_of_getElem? (i := 360) (by decide +kernel), List.mem_of_getElem? (i := 441) (by decide +kernel), List.mem_of_getElem? (i := 442) (by decide +kernel)⟩
theorem lw_p30 : lw_okq (⟨"WholeRegistersModel", "bitsOf", "(I)I"⟩, 3) := ⟨⟨by decide +kernel, by decide +kernel⟩, List.mem_of_getElem? (i := 360) (by decide +kernel), List.mem_of_getElem? (i := 458) (by decide +kernel), List.mem_of_getElem? (i := 459) (by decide +kernel)⟩
theorem lw_p31 : lw_okq (⟨"WholeRegistersModel", "bit", "(II)I"⟩, 3) := ⟨⟨by decide +kernel, by decide +kernel⟩, List.mem_of_getElem? (i := 360) (by decide +kernel), List.mem_of_getElem? (i := 462) (by decide +kernel), List.mem_of_getElem? (i := 463) (by decide +kernel)⟩
def lw_privs_2 : List (MethodName × Nat) := [(⟨"WholeRegisters", "moveDown", "([III)V"⟩, 6), (⟨"WholeRegisters", "takeRootOfSize", "(I)V"⟩, 6), (⟨"WholeRegisters", "takeFirstRootDigit", "(I)V"⟩, 6), (⟨"WholeRegisters", "takeRootDigit", "(II)V"⟩, 6), (⟨"WholeRegistersModel", "clear", "(I)V"⟩, 3), (⟨"WholeRegistersModel", "put", "(III)V"⟩, 3), (⟨"WholeRegistersModel", "get", "(II)I"⟩, 3), (⟨"WholeRegistersModel", "give", "(I)V"⟩, 3), (⟨"WholeRegistersModel", "length", "(I)I"⟩, 3), (⟨"WholeRegistersModel", "move", "(II)V"⟩, 3), (⟨"WholeRegistersModel", "take", "(III)Z"⟩, 3), (⟨"WholeRegistersModel", "sum", "()V"⟩, 3), (⟨"WholeRegistersModel", "order", "(II)I"⟩, 3), (⟨"WholeRegistersModel", "less", "(III)V"⟩, 3), (⟨"WholeRegistersModel", "bitsOf", "(I)I"⟩, 3), (⟨"WholeRegistersModel", "bit", "(II)I"⟩, 3)]
theorem lw_r2 : ∀ q ∈ lw_privs_2, lw_okq q := List.forall_mem_cons.mpr ⟨lw_p16, List.forall_mem_cons.mpr ⟨lw_p17, List.forall_mem_cons.mpr ⟨lw_p18, List.forall_mem_cons.mpr ⟨lw_p19, List.forall_mem_cons.mpr ⟨lw_p20, List.forall_mem_cons.mpr ⟨lw_p21, List.forall_mem_cons.mpr ⟨lw_p22, List.forall_mem_cons.mpr ⟨lw_p23, List.forall_mem_cons.mpr ⟨lw_p24, List.forall_mem_cons.mpr ⟨lw_p25, List.forall_mem_cons.mpr ⟨lw_p26, List.forall_mem_cons.mpr ⟨lw_p27, List.forall_mem_cons.mpr ⟨lw_p28, List.forall_mem_cons.mpr ⟨lw_p29, List.forall_mem_cons.mpr ⟨lw_p30, List.forall_mem_cons.mpr ⟨lw_p31, fun _ h => absurd h List.not_mem_nil⟩⟩⟩⟩⟩⟩⟩⟩⟩⟩⟩⟩⟩⟩⟩⟩
theorem lw_p32 : lw_okq (⟨"WholeRegistersModel", "shift", "(IIII)V"⟩, 3) := ⟨⟨by decide +kernel, by decide +kernel⟩, List.mem_of_getElem? (i := 360) (by decide +kernel), List.mem_of_getElem? (i := 466) (by decide +kernel), List.mem_of_getElem? (i := 467) (by decide +kernel)⟩
theorem lw_p33 : lw_okq (⟨"WholeRegistersModel", "isBelow", "(III)Z"⟩, 3) := ⟨⟨by decide +kernel, by decide +kernel⟩, List.mem_of_getElem? (i := 360) (by decide +kernel), List.mem_of_getElem? (i := 470) (by decide +kernel), List.mem_of_getElem? (i := 471) (by decide +kernel)⟩
theorem lw_p34 : lw_okq (⟨"WholeRegistersModel", "lessBy", "(III)V"⟩, 3) := ⟨⟨by decide +kernel, by decide +kernel⟩, List.mem_of_getElem? (i := 360) (by decide +kernel), List.mem_of_getElem? (i := 474) (by decide +kernel), List.mem_of_getElem? (i := 475) (by decide +kernel)⟩
def lw_privs_3 : List (MethodName × Nat) := [(⟨"WholeRegistersModel", "shift", "(IIII)V"⟩, 3), (⟨"WholeRegistersModel", "isBelow", "(III)Z"⟩, 3), (⟨"WholeRegistersModel", "lessBy", "(III)V"⟩, 3)]
theorem lw_r3 : ∀ q ∈ lw_privs_3, lw_okq q := List.forall_mem_cons.mpr ⟨lw_p32, List.forall_mem_cons.mpr ⟨lw_p33, List.forall_mem_cons.mpr ⟨lw_p34, fun _ h => absurd h List.not_mem_nil⟩⟩⟩
def lw_privs : List (MethodName × Nat) := lw_privs_1 ++ (lw_privs_2 ++ (lw_privs_3))
def lw_tbl : List Cond := k2_sels lw_privs ++ tables_1
theorem lw_privs_ok : ∀ q ∈ lw_privs, lw_okq q := by
  show ∀ q ∈ lw_privs_1 ++ (lw_privs_2 ++ (lw_privs_3)), lw_okq q
  exact List.forall_mem_append.mpr ⟨lw_r1, List.forall_mem_append.mpr ⟨lw_r2, lw_r3⟩⟩
end
section
/-! ===== BEGIN words of one list among another's, by their places ===== -/
theorem goodIn_r {big : List Cond} (ws : List Cond) (ps : List Nat) (hp : ws = ps.filterMap (fun i => big[i]?)) (h : ws.all goodWord = true) : GoodIn big ws := by
  intro w hw
  have h1 := List.all_eq_true.mp h w hw
  rw [hp] at hw
  obtain ⟨i, -, hi⟩ := List.mem_filterMap.mp hw
  have hm : w ∈ big := by first | exact List.mem_of_getElem? hi | exact List.getElem?_mem hi
  exact ⟨hm, good_of_word h1⟩
theorem goodIn_app {big a b : List Cond} (ha : GoodIn big a) (hb : GoodIn big b) : GoodIn big (a ++ b) := fun w h => (List.mem_append.mp h).elim (ha w) (hb w)
theorem goodIn_ca {big a b : List Cond} {c : Cond} (ha : GoodIn big (c :: a)) (hb : GoodIn big b) : GoodIn big (c :: (a ++ b)) := fun w h => (List.mem_cons.mp h).elim (fun e => ha w (List.mem_cons.mpr (Or.inl e))) (fun h => (List.mem_append.mp h).elim (fun h => ha w (List.mem_cons.mpr (Or.inr h))) (hb w))
theorem goodIn_sub {big ws : List Cond} (hm : ∀ w ∈ ws, w ∈ big) (h : ws.all goodWord = true) : GoodIn big ws := fun w hw => ⟨hm w hw, good_of_word (List.all_eq_true.mp h w hw)⟩
/-! ===== END ===== -/

/-! ===== END ===== -/

/-! ===== BEGIN exceptions that leave a method, and their catching by the caller (launches without stack traces) ===== -/
section VXA
/-! The laws vx_back, vx_callV, vx_callS, vx_callSW, vx_throw0, vx_throwS follow proofs of the library, with one case more: JvmDerived/Free/Laws.lean (Back.of_free), Shelf42/LK1.lean (callV, callS), Shelf/KitTraced.lean (throwNew0V, throwNewS). -/
/-- where a method has thrown q: the class by its name, the cell, what was written, the world -/
def vx_T (XC : String → State → State → Prop) (st : State) (q : Addr) (t : State) (mc ms : Nat) (free : Addr → Prop) : Prop :=
  ∃ (E : String) (ce : Cell) (L : List Loc), XC E st t ∧ t.heap[q]? = some ce ∧ ce.vm = .none ∧ st.vm.findClass E = some ce.cls ∧ st.WarmedH t.vm ∧ st.sameButNew ({ t with vm := st.vm } : State) L mc ms ∧ ∀ z ∈ L, free z.base
def vx_Q (Qc : Array Value → State → Outcome → State → Prop) (XC : String → State → State → Prop) (mc ms : Nat) (free : Addr → Prop) : Array Value → State → Outcome → State → Prop := fun a st o t =>
  (Qc a st o t ∧ ∃ L, FrameEnd st o t L mc ms ∧ ∀ q ∈ L, free q.base) ∨ ∃ q, o = .threw q ∧ vx_T XC st q t mc ms free
/-- a callee that returns or throws -/
def vx_Met (l : Launch) (y : MethodName) (ws : List Cond) (rm : Room) (Pc : Array Value → State → Prop) (Qc : Array Value → State → Outcome → State → Prop) (XC : String → State → State → Prop) (mc ms : Nat) (free : Addr → Prop) : Prop :=
  MetFree l y (headSpec ws rm) Pc (fun _ _ _ _ _ => True) (vx_Q Qc XC mc ms free)
def vx_Post (XC : String → State → State → Prop) (mc ms : Nat) (free : Addr → Prop) : Pt → Array Value → Addr → Pt → Prop := fun A a q B =>
  ∃ (g : JFrame) (mk : MethodId) (t : State) (L : List Loc) (E : String) (ce : Cell), B.U.heap = t.heap ∧ B.U.vm = t.vm ∧ XC E (A.U.calling g mk a) t ∧ t.heap[q]? = some ce ∧ ce.vm = .none ∧ A.U.vm.findClass E = some ce.cls ∧ B.locs = A.locs ++ L ∧ (∀ z ∈ L, free z.base) ∧ B.cells = A.cells + mc ∧ B.slots = A.slots + ms
def vx_Back (l : Launch) (R : Room) (p : Program) (e : Env) (below : List Frame) (s : State) (sargs : Array Value) (y : MethodName) (len W9 : Nat)
    (Pre : Pt → Array Value → Prop) (Post : Pt → Array Value → Option Value → Pt → Prop) (PostX : Pt → Array Value → Addr → Pt → Prop) : Prop :=
  ∀ (m : MethodId) (meth : Method) (c : Code) (A : Pt) (g : JFrame) (ig : Instr) (mk : MethodId) (a : Array Value),
    Stand p l e R s m sargs below meth c A.U A.locs A.cells A.slots → g.method = m → g.locals.size = c.maxLocals → decode c.code g.pc = .ok (ig, len) →
    2 * g.monitorRoom + (g.stack.map fun v => v.category).sum ≤ W9 → A.U.methodNamed? y = some mk → Pre A a →
    (∃ (v : Option Value) (B : Pt), Stand p l e R s m sargs below meth c B.U B.locs B.cells B.slots ∧ Post A a v B ∧
      Steps p.tables e below (doInvoke e (A.U.setTop g) [] mk a).1 (B.U.setTop { g with pc := g.pc + len, stack := v.toList ++ g.stack })) ∨
    (∃ (q : Addr) (B : Pt), Stand p l e R s m sargs below meth c B.U B.locs B.cells B.slots ∧ PostX A a q B ∧
      Steps p.tables e below (doInvoke e (A.U.setTop g) [] mk a).1 ((B.U.setTop g).pushFrame (.throwing q)))
section Payer
variable {l : Launch} {R : Room} {p : Program} {e : Env} {below : List Frame} {s : State} {sargs : Array Value} {y : MethodName} {len W9 : Nat}
theorem vx_back {ws : List Cond} {rm : Room} {Pc : Array Value → State → Prop} {Qc : Array Value → State → Outcome → State → Prop} {XC : String → State → State → Prop} {mc ms : Nat} {free : Addr → Prop} {bytes : ByteArray} {maxL : Nat} {ret : Option FieldType}
    (hM : vx_Met l y ws rm Pc Qc XC mc ms free) (hblind : FrameBlind Pc) (hrc : rm.cells = mc) (hrs : rm.slots = ms)
    (hframes : rm.frames + 1 ≤ R.frames) (hlocals : W9 + (maxL + 11) + rm.locals ≤ R.locals)
    (hws : ∀ w ∈ ws, ∀ a' U, s.WarmedH U.vm → w.before a' U = true) (hcode : Cond.code y bytes maxL ret ∈ ws) (hinit : ∀ a' U, s.WarmedH U.vm → (Cond.initialized y.cls).before a' U = true) :
    vx_Back l R p e below s sargs y len W9 (PreOf R mc ms Pc) (PostOf Qc mc ms free) (vx_Post XC mc ms free) := by
  intro m meth c A g ig mk a X hg hsize hdg hW hn hp
  have h1 : (headSpec ws rm).pre.before a A.U = true := atoms_intro fun w hw => hws w hw _ _ X.warmed
  have h2 : (Cond.code y bytes maxL ret).before a A.U = true := hws _ hcode _ _ X.warmed
  have h3 : (Cond.initialized y.cls).before a A.U = true := hinit _ _ X.warmed
  have h4 : A.cells + (headSpec ws rm).room.cells ≤ R.cells := by rw [show (headSpec ws rm).room.cells = mc from hrc]; exact hp.1
  have h5 : A.slots + (headSpec ws rm).room.slots ≤ R.slots := by rw [show (headSpec ws rm).room.slots = ms from hrs]; exact hp.2.1
  have hPc : Pc a (A.U.calling g mk a) := hblind _ _ _ _ hp.2.2
  obtain ⟨U, Ls, c0, s0⟩ := A
  dsimp only [Pt.U, Pt.locs, Pt.cells, Pt.slots] at h1 h2 h3 h4 h5 X hn hPc ⊢
  obtain ⟨methY, cY, hmY, hcY, -, hlY, -, -, -, -⟩ := Cond.code_spec hn h2
  obtain ⟨kY, hkY, -⟩ := className_of_methodNamed hn
  have hinitY : kY.init = .initialized := Cond.initialized_spec (findClass_of_methodNamed hn) hkY h3
  have h : At U g.method c below := by rw [hg]; exact X.here
  have hlocals9 : W9 + (maxL + 11) + (headSpec ws rm).room.locals ≤ R.locals := hlocals
  have happ : (headSpec ws rm).appliesLoose y e.platform (U.calling g mk a) = true :=
    Spec.appliesLoose_calling (g := g) h hdg hn hkY hinitY
      (X.room_calling (g := g) (R' := (headSpec ws rm).room) hsize hmY hcY hframes (by rw [hlY]; omega) h4 h5) h1
  obtain ⟨mid, hmid⟩ := h.above
  have hfr : (U.setTop g).frames = (.java g :: mid) ++ below := by rw [State.frames_setTop' g h.top, hmid]; rfl
  obtain ⟨o, s₂, hsteps, -, hend, hq⟩ := Steps.callFree hM p X.admits X.cas X.clock (acts := []) hfr happ hPc trivial
  have hq' : vx_Q Qc XC mc ms free a (U.calling g mk a) o s₂ := hq
  rw [State.frames_setTop' g h.top] at hend
  obtain ⟨g₀, hg0⟩ := Option.isSome_iff_exists.mp h.top
  obtain ⟨r, hr⟩ := State.topJava?_eq_some.mp hg0
  have hr' : (({ U with heap := s₂.heap, slotsUsed := s₂.slotsUsed } : State).setVm s₂.vm).frames = .java g₀ :: r := hr
  rcases hq' with ⟨hqc, L, hfe, hL⟩ | ⟨q, rfl, E, ce, L, hx, hce, hcv, hcl, hW₂, hsm, hL⟩
  · obtain ⟨⟨v, rfl⟩, hW₂, e2, q2, q3, q4, q5, q6⟩ := id hfe
    have e3 : s₂ = ({ (U.calling g mk a).setFrames s₂.frames with heap := s₂.heap, slotsUsed := s₂.slotsUsed } : State).setVm s₂.vm := by
      have : s₂ = ({ s₂ with vm := (U.calling g mk a).vm } : State).setVm s₂.vm := rfl
      rw [e2] at this
      exact this
    obtain ⟨c₂, i₂, len₂, hc₂, hd₂, hf₂⟩ := hend
    have hW' : U.WarmedH s₂.vm := hW₂
    have hcc : c₂ = c := by
      have h1 : s₂.code? g.method = U.code? g.method := by
        rw [State.code?_eq, State.code?_eq, hW'.alike.method?]
      exact Option.some.inj (hc₂.symm.trans (h1.trans h.code))
    subst hcc
    have hlen : len₂ = len := by rw [hdg] at hd₂; cases hd₂; rfl
    subst hlen
    have hs₂ : s₂ = (({ U with heap := s₂.heap, slotsUsed := s₂.slotsUsed } : State).setVm s₂.vm).setTop { g with pc := g.pc + len₂, stack := v.toList ++ g.stack } := by
      refine e3.trans ?_
      rw [hf₂, State.calling_eq h.top, State.setFrames_setFrames, State.setTop_of_frames _ hr', hr]
      rfl
    have hsame : U.sameButNew ({ U with heap := s₂.heap, slotsUsed := s₂.slotsUsed } : State) L mc ms := by
      refine ⟨?_, q2, q3, q4, q5, q6⟩
      obtain ⟨t, ht, -⟩ := State.frames_cons hr
      show ({ U with heap := s₂.heap, slotsUsed := s₂.slotsUsed } : State) = { U.setFrames U.frames with heap := s₂.heap, slotsUsed := s₂.slotsUsed }
      rw [State.setFrames_self ht]
    subst hg
    refine Or.inl ⟨v, ⟨(({ U with heap := s₂.heap, slotsUsed := s₂.slotsUsed } : State).setVm s₂.vm), Ls ++ L, c0 + mc, s0 + ms⟩,
      ⟨X.admits, X.cas, X.clock, X.frames, X.room, X.hears, X.method, X.code, (X.here.setHeapUsed s₂.heap s₂.slotsUsed).setVm hW'.alike, X.tail, State.WarmedH.trans X.warmed hW', X.limits, X.bytes, X.same.trans (hsame.setVm s.vm)⟩,
      ⟨g, mk, s₂, L, rfl, rfl, hqc, rfl, hL, rfl, rfl⟩, ?_⟩
    show Steps p.tables e below _ ((({ U with heap := s₂.heap, slotsUsed := s₂.slotsUsed } : State).setVm s₂.vm).setTop { g with pc := g.pc + len₂, stack := v.toList ++ g.stack })
    rw [← hs₂]
    exact hsteps
  · obtain ⟨e2, q2, q3, q4, q5, q6⟩ := id hsm
    have e3 : s₂ = ({ (U.calling g mk a).setFrames s₂.frames with heap := s₂.heap, slotsUsed := s₂.slotsUsed } : State).setVm s₂.vm := by
      have : s₂ = ({ s₂ with vm := (U.calling g mk a).vm } : State).setVm s₂.vm := rfl
      rw [e2] at this
      exact this
    have hf₂ : s₂.frames = .throwing q :: .java g :: U.frames.tail := hend
    have hW' : U.WarmedH s₂.vm := hW₂
    have hs₂ : s₂ = ((({ U with heap := s₂.heap, slotsUsed := s₂.slotsUsed } : State).setVm s₂.vm).setTop g).pushFrame (.throwing q) := by
      refine e3.trans ?_
      rw [hf₂, State.calling_eq h.top, State.setFrames_setFrames, State.pushFrame, State.frames_setTop _ hr', State.setTop_of_frames _ hr', State.setFrames_setFrames, hr]
      rfl
    have hsame : U.sameButNew ({ U with heap := s₂.heap, slotsUsed := s₂.slotsUsed } : State) L mc ms := by
      refine ⟨?_, q2, q3, q4, q5, q6⟩
      obtain ⟨t, ht, -⟩ := State.frames_cons hr
      show ({ U with heap := s₂.heap, slotsUsed := s₂.slotsUsed } : State) = { U.setFrames U.frames with heap := s₂.heap, slotsUsed := s₂.slotsUsed }
      rw [State.setFrames_self ht]
    subst hg
    refine Or.inr ⟨q, ⟨(({ U with heap := s₂.heap, slotsUsed := s₂.slotsUsed } : State).setVm s₂.vm), Ls ++ L, c0 + mc, s0 + ms⟩,
      ⟨X.admits, X.cas, X.clock, X.frames, X.room, X.hears, X.method, X.code, (X.here.setHeapUsed s₂.heap s₂.slotsUsed).setVm hW'.alike, X.tail, State.WarmedH.trans X.warmed hW', X.limits, X.bytes, X.same.trans (hsame.setVm s.vm)⟩,
      ⟨g, mk, s₂, L, E, ce, rfl, rfl, hx, hce, hcv, hcl, rfl, hL, rfl, rfl⟩, ?_⟩
    show Steps p.tables e below _ (((({ U with heap := s₂.heap, slotsUsed := s₂.slotsUsed } : State).setVm s₂.vm).setTop g).pushFrame (.throwing q))
    rw [← hs₂]
    exact hsteps
end Payer
section Calls
variable {p : Program} {l : Launch} {e : Env} {R : Room} {s : State} {m : MethodId} {args : Array Value} {below : List Frame} {meth : Method} {c : Code} {T : State} {locs : List Loc} {cells slots : Nat}
theorem vx_callV (X : Stand p l e R s m args below meth c T locs cells slots) (hexec : p.tables.exec = Jvm.exec) {own C : String} {index : Nat} {y : MethodName} {bytes : ByteArray} {maxL : Nat} {ret : Option FieldType}
    (hown : s.vm.findClass own = some m.cls) (hlink : (Cond.methodLink own index y).before args s = true) (hinst : (Cond.instanceMethod y).before args s = true) (hsel : (Cond.selects C y y).before args s = true)
    (hcode : (Cond.code y bytes maxL ret).before args s = true) (hy : y.cls ≠ "java/lang/invoke/MethodHandle" ∧ y.cls ≠ "java/lang/invoke/VarHandle")
    {W9 : Nat} {Pre : Pt → Array Value → Prop} {Post : Pt → Array Value → Option Value → Pt → Prop} {PostX : Pt → Array Value → Addr → Pt → Prop} (hK : vx_Back l R p e below s args y 3 W9 Pre Post PostX)
    {b : Addr} {cellB : Cell} (hcell : T.heap[b]? = some cellB) (hobj : cellB.vm.isStatics = false) (hcls : s.vm.findClass C = some cellB.cls)
    {g : JFrame} (hg : g.method = m) (hsize : g.locals.size = c.maxLocals) {argsL rest : List Value} (hlen : ∀ sig, parseMethodDescriptor y.desc = some sig → argsL.length = sig.parameters.length)
    (hstack : g.stack = argsL.reverse ++ .ref b :: rest) (hW : 2 * g.monitorRoom + (rest.map fun v => v.category).sum ≤ W9) (hdg : decode c.code g.pc = .ok (.invokevirtual index, 3))
    (hpre : ∀ vm₁, s.WarmedH vm₁ → Pre ⟨T.setVm vm₁, locs, cells, slots⟩ (Value.ref b :: argsL).toArray) :
    (∃ (v : Option Value) (vm₁ : Vm) (B : Pt), s.WarmedH vm₁ ∧ Stand p l e R s m args below meth c B.U B.locs B.cells B.slots ∧ Post ⟨T.setVm vm₁, locs, cells, slots⟩ (Value.ref b :: argsL).toArray v B ∧
      ∀ target, Steps p.tables e below (B.U.setTop { g with pc := g.pc + 3, stack := v.toList ++ rest }) target → Steps p.tables e below (T.setTop g) target) ∨
    (∃ (q : Addr) (vm₁ : Vm) (B : Pt), s.WarmedH vm₁ ∧ Stand p l e R s m args below meth c B.U B.locs B.cells B.slots ∧ PostX ⟨T.setVm vm₁, locs, cells, slots⟩ (Value.ref b :: argsL).toArray q B ∧
      Steps p.tables e below (T.setTop g) ((B.U.setTop { g with stack := rest }).pushFrame (.throwing q))) := by
  obtain ⟨mk, methM, hnamed, hmethM, hstM, habM⟩ := Cond.instanceMethod_spec hinst
  obtain ⟨methM', cM, hmethM', -, -, -, -, -, -, hsigM⟩ := Cond.code_spec hnamed hcode
  cases hmethM.symm.trans hmethM'
  obtain ⟨c2, r2, m2, q1, q2, q3, q4, kP, hkP, hkPi⟩ := Cond.selects_spec hsel
  cases hcls.symm.trans q1
  cases (State.methodFound?_of_named hnamed hy).symm.trans q2
  cases hnamed.symm.trans q3
  have hselP : selectMethod e.platform s.vm cellB.cls mk = .method mk := by rw [Launch.admits_selectMethod X.admits]; exact q4
  obtain ⟨vm₁, X₁, hstep₁⟩ := X.invokevirtual hexec hown hlink hnamed hmethM hstM hkP hkPi hy (a := b) (cell := cellB) hcell
    (fun z h => by rw [h] at hobj; cases hobj) hselP hmethM habM hkP hkPi (g := g) hg (argsL := argsL) (rest := rest) (hlen _ hsigM) hstack hdg
  rcases hK m meth c ⟨T.setVm vm₁, locs, cells, slots⟩ { g with stack := rest } (.invokevirtual index) mk (Value.ref b :: argsL).toArray X₁ hg hsize hdg hW (X₁.named hnamed) (hpre vm₁ X₁.warmed) with ⟨v, B, X', hpost, hsteps⟩ | ⟨q, B, X', hpost, hsteps⟩
  · exact Or.inl ⟨v, vm₁, B, X₁.warmed, X', hpost, fun target h => hstep₁ _ fun acts => by rw [doInvoke_state]; exact hsteps.trans h⟩
  · exact Or.inr ⟨q, vm₁, B, X₁.warmed, X', hpost, hstep₁ _ fun acts => by rw [doInvoke_state]; exact hsteps⟩
theorem vx_callS (X : Stand p l e R s m args below meth c T locs cells slots) (hexec : p.tables.exec = Jvm.exec) {own : String} {index : Nat} {y : MethodName} {bytes : ByteArray} {maxL : Nat} {ret : Option FieldType}
    (hown : s.vm.findClass own = some m.cls) (hlink : (Cond.methodLink own index y).before args s = true) (hstat : (Cond.static y).before args s = true) (hinit : (Cond.initialized y.cls).before args s = true)
    (hcode : (Cond.code y bytes maxL ret).before args s = true) (hy : y.cls ≠ "java/lang/invoke/MethodHandle" ∧ y.cls ≠ "java/lang/invoke/VarHandle")
    {W9 : Nat} {Pre : Pt → Array Value → Prop} {Post : Pt → Array Value → Option Value → Pt → Prop} {PostX : Pt → Array Value → Addr → Pt → Prop} (hK : vx_Back l R p e below s args y 3 W9 Pre Post PostX)
    {g : JFrame} (hg : g.method = m) (hsize : g.locals.size = c.maxLocals) {argsL rest : List Value} (hlen : ∀ sig, parseMethodDescriptor y.desc = some sig → argsL.length = sig.parameters.length)
    (hstack : g.stack = argsL.reverse ++ rest) (hW : 2 * g.monitorRoom + (rest.map fun v => v.category).sum ≤ W9) (hdg : decode c.code g.pc = .ok (.invokestatic index, 3))
    (hpre : ∀ vm₁, s.WarmedH vm₁ → Pre ⟨T.setVm vm₁, locs, cells, slots⟩ argsL.toArray) :
    (∃ (v : Option Value) (vm₁ : Vm) (B : Pt), s.WarmedH vm₁ ∧ Stand p l e R s m args below meth c B.U B.locs B.cells B.slots ∧ Post ⟨T.setVm vm₁, locs, cells, slots⟩ argsL.toArray v B ∧
      ∀ target, Steps p.tables e below (B.U.setTop { g with pc := g.pc + 3, stack := v.toList ++ rest }) target → Steps p.tables e below (T.setTop g) target) ∨
    (∃ (q : Addr) (vm₁ : Vm) (B : Pt), s.WarmedH vm₁ ∧ Stand p l e R s m args below meth c B.U B.locs B.cells B.slots ∧ PostX ⟨T.setVm vm₁, locs, cells, slots⟩ argsL.toArray q B ∧
      Steps p.tables e below (T.setTop g) ((B.U.setTop { g with stack := rest }).pushFrame (.throwing q))) := by
  obtain ⟨mk, hnamed⟩ := Cond.code_named hcode
  obtain ⟨methM, cM, hmethM, -, -, -, -, -, -, hsigM⟩ := Cond.code_spec hnamed hcode
  have hstatic : methM.isStatic = true := Cond.static_spec hnamed hmethM hstat
  obtain ⟨kP, hkP, -⟩ := className_of_methodNamed hnamed
  have hinitP : kP.init = .initialized := Cond.initialized_spec (findClass_of_methodNamed hnamed) hkP hinit
  obtain ⟨vm₁, X₁, hstep₁⟩ := X.invokestatic hexec hown hlink hnamed hmethM hstatic hkP hinitP hy (g := g) hg (argsL := argsL) (rest := rest) (hlen _ hsigM) hstack hdg
  rcases hK m meth c ⟨T.setVm vm₁, locs, cells, slots⟩ { g with stack := rest } (.invokestatic index) mk argsL.toArray X₁ hg hsize hdg hW (X₁.named hnamed) (hpre vm₁ X₁.warmed) with ⟨v, B, X', hpost, hsteps⟩ | ⟨q, B, X', hpost, hsteps⟩
  · exact Or.inl ⟨v, vm₁, B, X₁.warmed, X', hpost, fun target h => hstep₁ _ fun acts => by rw [doInvoke_state]; exact hsteps.trans h⟩
  · exact Or.inr ⟨q, vm₁, B, X₁.warmed, X', hpost, hstep₁ _ fun acts => by rw [doInvoke_state]; exact hsteps⟩
end Calls
theorem vx_cls {s : State} {T : State} {vm₁ : Vm} {E : String} {k : ClassId} (hW : s.WarmedH vm₁) (h : (T.setVm vm₁).vm.findClass E = some k) : s.vm.findClass E = some k := by
  have h1 : vm₁.findClass E = some k := h
  rw [hW.alike.findClass] at h1
  exact h1
/-- the method's frame g, with q thrown over it -/
def vx_W (p : Program) (l : Launch) (e : Env) (R : Room) (s : State) (m : MethodId) (args : Array Value) (below : List Frame) (meth : Method) (c : Code) (H : Heap) (locs : List Loc) (cells slots : Nat) (Q : State → Prop) (g : JFrame) (q : Addr) : Prop :=
  ∀ T : State, T.heap = H → Stand p l e R s m args below meth c T locs cells slots → ∃ t, Steps p.tables e below ((T.setTop g).pushFrame (.throwing q)) t ∧ Q t
def vx_Run (p : Program) (l : Launch) (e : Env) (R : Room) (s : State) (m : MethodId) (args : Array Value) (below : List Frame) (meth : Method) (c : Code) (H : Heap) (locs : List Loc) (cells slots mc ms : Nat) (g : JFrame) (rest : List Value) (Qa : State → Outcome → State → Prop) (XC : String → State → State → Prop) (free : Addr → Prop) : Prop :=
  ∀ T : State, T.heap = H → Stand p l e R s m args below meth c T locs cells slots →
    (∃ (v : Option Value) (st₀ t T' : State) (L : List Loc), st₀.heap = H ∧ Stand p l e R s m args below meth c T' (locs ++ L) (cells + mc) (slots + ms) ∧ (∀ q ∈ L, free q.base) ∧ T'.heap = t.heap ∧ T'.vm = t.vm ∧ Qa st₀ (.returned v) t ∧
      Goes p e below T g T' { g with pc := g.pc + 3, stack := v.toList ++ rest }) ∨
    (∃ (q : Addr) (st₀ t T' : State) (L : List Loc) (E : String) (ce : Cell), st₀.heap = H ∧ Stand p l e R s m args below meth c T' (locs ++ L) (cells + mc) (slots + ms) ∧ (∀ z ∈ L, free z.base) ∧ T'.heap = t.heap ∧ T'.vm = t.vm ∧ XC E st₀ t ∧ t.heap[q]? = some ce ∧ ce.vm = .none ∧ s.vm.findClass E = some ce.cls ∧
      Steps p.tables e below (T.setTop g) ((T'.setTop { g with stack := rest }).pushFrame (.throwing q)))
def vx_X {S : Type} (px : S → Prop) (B : String → S → State → Prop) (A : Nat → Prop) : String → State → State → Prop := fun E st t => ∃ u : S, px u ∧ B E u t ∧ va_F A st t
section Runs
variable {p : Program} {l : Launch} {e : Env} {R : Room} {s : State} {m : MethodId} {args : Array Value} {below : List Frame} {meth : Method} {c : Code} {H : Heap} {locs : List Loc} {cells slots : Nat}
variable {y : MethodName} {bytes cc : ByteArray} {maxL nL mc ms n index : Nat} {ret : Option FieldType} {ws : List Cond} {rm : Room} {Pc : Array Value → State → Prop} {Qc : Array Value → State → Outcome → State → Prop} {XC : String → State → State → Prop} {free : Addr → Prop} {Ts : List Cond} {own C : String} {b : Addr} {As rest : List Value} {g : JFrame}
theorem vx_callBack (cb : CallB R s args own index y bytes maxL ret ws rm mc ms n) (hM : vx_Met l y ws rm Pc Qc XC mc ms free) (hbl : FrameBlind Pc) : vx_Back l R p e below s args y 3 8 (PreOf R mc ms Pc) (PostOf Qc mc ms free) (vx_Post XC mc ms free) := by
  obtain ⟨hrc, hrs, hfr, hlo, hws, hcw, -, hini, -⟩ := cb
  exact vx_back (bytes := bytes) (maxL := maxL) (ret := ret) hM hbl hrc hrs hfr hlo hws hcw (fun a' U hW => word_at hW (Or.inl (by first | rfl | simp [Cond.onTables, Cond.keeps, Cond.steady])) hini)
theorem vx_runV (S : CallFix p m c cc nL s args Ts own) (hM : vx_Met l y ws rm Pc Qc XC mc ms free) (cw : CallW R s args own C index y bytes maxL ret ws rm mc ms n) (hp : PreV s H C b Pc As)
    (hg : g.method = m) (hn : As.length = n) (hsize : g.locals.size = nL) (hstack : g.stack = As.reverse ++ .ref b :: rest) (hW : 2 * g.monitorRoom + (rest.map fun v => v.category).sum ≤ 8) (hdg : decode cc g.pc = .ok (.invokevirtual index, 3)) (hf : cells + mc ≤ R.cells ∧ slots + ms ≤ R.slots) :
    vx_Run p l e R s m args below meth c H locs cells slots mc ms g rest (Qc (Value.ref b :: As).toArray) XC free := by
  have hK : vx_Back l R p e below s args y 3 8 (PreOf R mc ms Pc) (PostOf Qc mc ms free) (vx_Post XC mc ms free) := vx_callBack cw.1 hM hp.1
  obtain ⟨⟨-, -, -, -, -, -, hcode, -, hy, hlen, hl⟩, hin, hse⟩ := cw
  obtain ⟨hx, hb, hml, ho, -⟩ := S
  obtain ⟨-, ⟨cellB, hcB, hoB, hclB⟩, hPc⟩ := hp
  intro T hT X
  rcases vx_callV X hx (C := C) (bytes := bytes) (maxL := maxL) (ret := ret) ho hl hin hse hcode hy hK (by rw [hT]; exact hcB) hoB hclB hg (hsize.trans hml.symm) (argsL := As) (rest := rest) (fun sig h => hn.trans (hlen sig h)) hstack hW (by rw [hb]; exact hdg)
    (fun vm₁ hW₁ => ⟨hf.1, hf.2, hPc (T.setVm vm₁) hT hW₁⟩) with ⟨v, vm₁, ⟨U', l2, c2, s2⟩, hW₁, X', ⟨g', mk, t, L, e1, e2, hq, h1, hL, h2, h3⟩, st⟩ | ⟨q, vm₁, ⟨U', l2, c2, s2⟩, hW₁, X', ⟨g', mk, t, L, E, ce, e1, e2, hq, hce, hcv, hcl, h1, hL, h2, h3⟩, st⟩
  · dsimp only [Pt.U, Pt.locs, Pt.cells, Pt.slots] at X' e1 e2 h1 h2 h3 st
    subst h1; subst h2; subst h3
    exact Or.inl ⟨v, (T.setVm vm₁).calling g' mk (Value.ref b :: As).toArray, t, U', L, hT, X', hL, e1, e2, hq, st⟩
  · dsimp only [Pt.U, Pt.locs, Pt.cells, Pt.slots] at X' e1 e2 h1 h2 h3 st hcl
    subst h1; subst h2; subst h3
    exact Or.inr ⟨q, (T.setVm vm₁).calling g' mk (Value.ref b :: As).toArray, t, U', L, E, ce, hT, X', hL, e1, e2, hq, hce, hcv, vx_cls hW₁ hcl, st⟩
theorem vx_runS (S : CallFix p m c cc nL s args Ts own) (hM : vx_Met l y ws rm Pc Qc XC mc ms free) (cw : CallB R s args own index y bytes maxL ret ws rm mc ms n ∧ (Cond.static y).before args s = true) (hp : PreS s H Pc As)
    (hg : g.method = m) (hn : As.length = n) (hsize : g.locals.size = nL) (hstack : g.stack = As.reverse ++ rest) (hW : 2 * g.monitorRoom + (rest.map fun v => v.category).sum ≤ 8) (hdg : decode cc g.pc = .ok (.invokestatic index, 3)) (hf : cells + mc ≤ R.cells ∧ slots + ms ≤ R.slots) :
    vx_Run p l e R s m args below meth c H locs cells slots mc ms g rest (Qc As.toArray) XC free := by
  have hK : vx_Back l R p e below s args y 3 8 (PreOf R mc ms Pc) (PostOf Qc mc ms free) (vx_Post XC mc ms free) := vx_callBack cw.1 hM hp.1
  obtain ⟨⟨-, -, -, -, -, -, hcode, hini, hy, hlen, hl⟩, hstt⟩ := cw
  obtain ⟨hx, hb, hml, ho, -⟩ := S
  intro T hT X
  rcases vx_callS X hx (bytes := bytes) (maxL := maxL) (ret := ret) ho hl hstt hini hcode hy hK hg (hsize.trans hml.symm) (argsL := As) (rest := rest) (fun sig h => hn.trans (hlen sig h)) hstack hW (by rw [hb]; exact hdg)
    (fun vm₁ hW₁ => ⟨hf.1, hf.2, hp.2 (T.setVm vm₁) hT hW₁⟩) with ⟨v, vm₁, ⟨U', l2, c2, s2⟩, hW₁, X', ⟨g', mk, t, L, e1, e2, hq, h1, hL, h2, h3⟩, st⟩ | ⟨q, vm₁, ⟨U', l2, c2, s2⟩, hW₁, X', ⟨g', mk, t, L, E, ce, e1, e2, hq, hce, hcv, hcl, h1, hL, h2, h3⟩, st⟩
  · dsimp only [Pt.U, Pt.locs, Pt.cells, Pt.slots] at X' e1 e2 h1 h2 h3 st
    subst h1; subst h2; subst h3
    exact Or.inl ⟨v, (T.setVm vm₁).calling g' mk As.toArray, t, U', L, hT, X', hL, e1, e2, hq, st⟩
  · dsimp only [Pt.U, Pt.locs, Pt.cells, Pt.slots] at X' e1 e2 h1 h2 h3 st hcl
    subst h1; subst h2; subst h3
    exact Or.inr ⟨q, (T.setVm vm₁).calling g' mk As.toArray, t, U', L, E, ce, hT, X', hL, e1, e2, hq, hce, hcv, vx_cls hW₁ hcl, st⟩
end Runs
section Rows
variable {p : Program} {l : Launch} {e : Env} {R : Room} {s : State} {m : MethodId} {args : Array Value} {below : List Frame} {meth : Method} {c : Code} {H : Heap} {locs : List Loc} {cells slots : Nat} {Q : State → Prop}
variable {mc ms : Nat} {free : Addr → Prop} {A0 A1 : Nat → Prop} {H0 : Heap} {a : Array Value} {pc : Nat} {ls : Array Slot} {st0 rest : List Value}
theorem vx_keep {st₀ t T' : State} {L : List Loc} (h0 : st₀.heap = H) (e1 : T'.heap = t.heap) (hS : va_S A0 H0 H locs) (hA : ∀ q, q < H.size → A1 q → A0 q) (hf : ∀ q, free q → A0 q) (hL : ∀ q ∈ L, free q.base) (hF : va_F A1 st₀ t) :
    H.size ≤ T'.heap.size ∧ (∀ q : Nat, q < H.size → ¬ A1 q → T'.heap[q]? = H[q]?) ∧ va_S A0 H0 T'.heap (locs ++ L) := by
  obtain ⟨hz, hk⟩ := hF
  rw [h0] at hz hk
  exact ⟨by rw [e1]; exact hz, fun q h1 h2 => by rw [e1]; exact hk q h1 h2,
    ⟨Nat.le_trans hS.1 (by rw [e1]; exact hz), fun q h1 h2 => by rw [e1, hk q (Nat.lt_of_lt_of_le h1 hS.1) (fun z => h2 (hA q (Nat.lt_of_lt_of_le h1 hS.1) z))]; exact hS.2.1 q h1 h2, fun q hq => by
      rcases List.mem_append.mp hq with h | h
      · exact hS.2.2 q h
      · exact hf _ (hL q h)⟩⟩
theorem vx_calli {S SX : Type} {post : Int32 → S → Prop} {px : SX → Prop} {B : S → State → Prop} {BX : String → SX → State → Prop} {AX : Nat → Prop} (hr : vx_Run p l e R s m args below meth c H locs cells slots mc ms (F0 m pc ls st0) rest (va_Qi post B A1 a) (vx_X px BX AX) free) (hS : va_S A0 H0 H locs) (hA : ∀ q, q < H.size → A1 q → A0 q) (hf : ∀ q, free q → A0 q) (hAX : ∀ q, q < H.size → AX q → A0 q)
    (kx : ∀ (E : String) (ce : Cell) (q9 : Addr) (u : SX) (t : State) (H1 : Heap) (locs1 : List Loc), t.heap = H1 → s.vm.Alike t.vm → px u → BX E u t → H.size ≤ H1.size → (∀ q : Nat, q < H.size → ¬ AX q → H1[q]? = H[q]?) → va_S A0 H0 H1 locs1 → H1[q9]? = some ce → ce.vm = .none → s.vm.findClass E = some ce.cls → vx_W p l e R s m args below meth c H1 locs1 (cells + mc) (slots + ms) Q (F0 m pc ls rest) q9)
    (kk : ∀ (r : Int32) (u : S) (t : State) (H1 : Heap) (locs1 : List Loc), t.heap = H1 → s.vm.Alike t.vm → post r u → B u t → H.size ≤ H1.size → (∀ q : Nat, q < H.size → ¬ A1 q → H1[q]? = H[q]?) → va_S A0 H0 H1 locs1 → W p l e R s m args below meth c H1 locs1 (cells + mc) (slots + ms) Q (F0 m (pc + 3) ls (.int r :: rest))) : W p l e R s m args below meth c H locs cells slots Q (F0 m pc ls st0) := by
  intro T hT X
  rcases hr T hT X with ⟨v, st₀, t, T', L, h0, X', hL, e1, e2, ⟨⟨r, u, hv, hp, hb⟩, hF⟩, st⟩ | ⟨q, st₀, t, T', L, E, ce, h0, X', hL, e1, e2, ⟨u, hp, hb, hF⟩, hce, hcv, hcl, st⟩
  · cases hv
    obtain ⟨k1, k2, k3⟩ := vx_keep h0 e1 hS hA hf hL hF
    obtain ⟨t2, a1, b1⟩ := kk r u t T'.heap (locs ++ L) e1.symm (by rw [← e2]; exact X'.warmed.alike) hp hb k1 k2 k3 T' rfl X'
    exact ⟨t2, st t2 a1, b1⟩
  · obtain ⟨k1, k2, k3⟩ := vx_keep h0 e1 hS hAX hf hL hF
    obtain ⟨t2, a1, b1⟩ := kx E ce q u t T'.heap (locs ++ L) e1.symm (by rw [← e2]; exact X'.warmed.alike) hp hb k1 k2 k3 (by rw [e1]; exact hce) hcv hcl T' rfl X'
    exact ⟨t2, st.trans a1, b1⟩
theorem vx_calll {S SX : Type} {post : Int64 → S → Prop} {px : SX → Prop} {B : S → State → Prop} {BX : String → SX → State → Prop} {AX : Nat → Prop} (hr : vx_Run p l e R s m args below meth c H locs cells slots mc ms (F0 m pc ls st0) rest (va_Ql post B A1 a) (vx_X px BX AX) free) (hS : va_S A0 H0 H locs) (hA : ∀ q, q < H.size → A1 q → A0 q) (hf : ∀ q, free q → A0 q) (hAX : ∀ q, q < H.size → AX q → A0 q)
    (kx : ∀ (E : String) (ce : Cell) (q9 : Addr) (u : SX) (t : State) (H1 : Heap) (locs1 : List Loc), t.heap = H1 → s.vm.Alike t.vm → px u → BX E u t → H.size ≤ H1.size → (∀ q : Nat, q < H.size → ¬ AX q → H1[q]? = H[q]?) → va_S A0 H0 H1 locs1 → H1[q9]? = some ce → ce.vm = .none → s.vm.findClass E = some ce.cls → vx_W p l e R s m args below meth c H1 locs1 (cells + mc) (slots + ms) Q (F0 m pc ls rest) q9)
    (kk : ∀ (r : Int64) (u : S) (t : State) (H1 : Heap) (locs1 : List Loc), t.heap = H1 → s.vm.Alike t.vm → post r u → B u t → H.size ≤ H1.size → (∀ q : Nat, q < H.size → ¬ A1 q → H1[q]? = H[q]?) → va_S A0 H0 H1 locs1 → W p l e R s m args below meth c H1 locs1 (cells + mc) (slots + ms) Q (F0 m (pc + 3) ls (.long r :: rest))) : W p l e R s m args below meth c H locs cells slots Q (F0 m pc ls st0) := by
  intro T hT X
  rcases hr T hT X with ⟨v, st₀, t, T', L, h0, X', hL, e1, e2, ⟨⟨r, u, hv, hp, hb⟩, hF⟩, st⟩ | ⟨q, st₀, t, T', L, E, ce, h0, X', hL, e1, e2, ⟨u, hp, hb, hF⟩, hce, hcv, hcl, st⟩
  · cases hv
    obtain ⟨k1, k2, k3⟩ := vx_keep h0 e1 hS hA hf hL hF
    obtain ⟨t2, a1, b1⟩ := kk r u t T'.heap (locs ++ L) e1.symm (by rw [← e2]; exact X'.warmed.alike) hp hb k1 k2 k3 T' rfl X'
    exact ⟨t2, st t2 a1, b1⟩
  · obtain ⟨k1, k2, k3⟩ := vx_keep h0 e1 hS hAX hf hL hF
    obtain ⟨t2, a1, b1⟩ := kx E ce q u t T'.heap (locs ++ L) e1.symm (by rw [← e2]; exact X'.warmed.alike) hp hb k1 k2 k3 (by rw [e1]; exact hce) hcv hcl T' rfl X'
    exact ⟨t2, st.trans a1, b1⟩
theorem vx_callf {S SX : Type} {post : UInt32 → S → Prop} {px : SX → Prop} {B : S → State → Prop} {BX : String → SX → State → Prop} {AX : Nat → Prop} (hr : vx_Run p l e R s m args below meth c H locs cells slots mc ms (F0 m pc ls st0) rest (va_Qf post B A1 a) (vx_X px BX AX) free) (hS : va_S A0 H0 H locs) (hA : ∀ q, q < H.size → A1 q → A0 q) (hf : ∀ q, free q → A0 q) (hAX : ∀ q, q < H.size → AX q → A0 q)
    (kx : ∀ (E : String) (ce : Cell) (q9 : Addr) (u : SX) (t : State) (H1 : Heap) (locs1 : List Loc), t.heap = H1 → s.vm.Alike t.vm → px u → BX E u t → H.size ≤ H1.size → (∀ q : Nat, q < H.size → ¬ AX q → H1[q]? = H[q]?) → va_S A0 H0 H1 locs1 → H1[q9]? = some ce → ce.vm = .none → s.vm.findClass E = some ce.cls → vx_W p l e R s m args below meth c H1 locs1 (cells + mc) (slots + ms) Q (F0 m pc ls rest) q9)
    (kk : ∀ (r : UInt32) (u : S) (t : State) (H1 : Heap) (locs1 : List Loc), t.heap = H1 → s.vm.Alike t.vm → post r u → B u t → H.size ≤ H1.size → (∀ q : Nat, q < H.size → ¬ A1 q → H1[q]? = H[q]?) → va_S A0 H0 H1 locs1 → W p l e R s m args below meth c H1 locs1 (cells + mc) (slots + ms) Q (F0 m (pc + 3) ls (.float r :: rest))) : W p l e R s m args below meth c H locs cells slots Q (F0 m pc ls st0) := by
  intro T hT X
  rcases hr T hT X with ⟨v, st₀, t, T', L, h0, X', hL, e1, e2, ⟨⟨r, u, hv, hp, hb⟩, hF⟩, st⟩ | ⟨q, st₀, t, T', L, E, ce, h0, X', hL, e1, e2, ⟨u, hp, hb, hF⟩, hce, hcv, hcl, st⟩
  · cases hv
    obtain ⟨k1, k2, k3⟩ := vx_keep h0 e1 hS hA hf hL hF
    obtain ⟨t2, a1, b1⟩ := kk r u t T'.heap (locs ++ L) e1.symm (by rw [← e2]; exact X'.warmed.alike) hp hb k1 k2 k3 T' rfl X'
    exact ⟨t2, st t2 a1, b1⟩
  · obtain ⟨k1, k2, k3⟩ := vx_keep h0 e1 hS hAX hf hL hF
    obtain ⟨t2, a1, b1⟩ := kx E ce q u t T'.heap (locs ++ L) e1.symm (by rw [← e2]; exact X'.warmed.alike) hp hb k1 k2 k3 (by rw [e1]; exact hce) hcv hcl T' rfl X'
    exact ⟨t2, st.trans a1, b1⟩
theorem vx_calld {S SX : Type} {post : UInt64 → S → Prop} {px : SX → Prop} {B : S → State → Prop} {BX : String → SX → State → Prop} {AX : Nat → Prop} (hr : vx_Run p l e R s m args below meth c H locs cells slots mc ms (F0 m pc ls st0) rest (va_Qd post B A1 a) (vx_X px BX AX) free) (hS : va_S A0 H0 H locs) (hA : ∀ q, q < H.size → A1 q → A0 q) (hf : ∀ q, free q → A0 q) (hAX : ∀ q, q < H.size → AX q → A0 q)
    (kx : ∀ (E : String) (ce : Cell) (q9 : Addr) (u : SX) (t : State) (H1 : Heap) (locs1 : List Loc), t.heap = H1 → s.vm.Alike t.vm → px u → BX E u t → H.size ≤ H1.size → (∀ q : Nat, q < H.size → ¬ AX q → H1[q]? = H[q]?) → va_S A0 H0 H1 locs1 → H1[q9]? = some ce → ce.vm = .none → s.vm.findClass E = some ce.cls → vx_W p l e R s m args below meth c H1 locs1 (cells + mc) (slots + ms) Q (F0 m pc ls rest) q9)
    (kk : ∀ (r : UInt64) (u : S) (t : State) (H1 : Heap) (locs1 : List Loc), t.heap = H1 → s.vm.Alike t.vm → post r u → B u t → H.size ≤ H1.size → (∀ q : Nat, q < H.size → ¬ A1 q → H1[q]? = H[q]?) → va_S A0 H0 H1 locs1 → W p l e R s m args below meth c H1 locs1 (cells + mc) (slots + ms) Q (F0 m (pc + 3) ls (.double r :: rest))) : W p l e R s m args below meth c H locs cells slots Q (F0 m pc ls st0) := by
  intro T hT X
  rcases hr T hT X with ⟨v, st₀, t, T', L, h0, X', hL, e1, e2, ⟨⟨r, u, hv, hp, hb⟩, hF⟩, st⟩ | ⟨q, st₀, t, T', L, E, ce, h0, X', hL, e1, e2, ⟨u, hp, hb, hF⟩, hce, hcv, hcl, st⟩
  · cases hv
    obtain ⟨k1, k2, k3⟩ := vx_keep h0 e1 hS hA hf hL hF
    obtain ⟨t2, a1, b1⟩ := kk r u t T'.heap (locs ++ L) e1.symm (by rw [← e2]; exact X'.warmed.alike) hp hb k1 k2 k3 T' rfl X'
    exact ⟨t2, st t2 a1, b1⟩
  · obtain ⟨k1, k2, k3⟩ := vx_keep h0 e1 hS hAX hf hL hF
    obtain ⟨t2, a1, b1⟩ := kx E ce q u t T'.heap (locs ++ L) e1.symm (by rw [← e2]; exact X'.warmed.alike) hp hb k1 k2 k3 (by rw [e1]; exact hce) hcv hcl T' rfl X'
    exact ⟨t2, st.trans a1, b1⟩
theorem vx_callv {S SX : Type} {post : S → Prop} {px : SX → Prop} {B : S → State → Prop} {BX : String → SX → State → Prop} {AX : Nat → Prop} (hr : vx_Run p l e R s m args below meth c H locs cells slots mc ms (F0 m pc ls st0) rest (va_Qv post B A1 a) (vx_X px BX AX) free) (hS : va_S A0 H0 H locs) (hA : ∀ q, q < H.size → A1 q → A0 q) (hf : ∀ q, free q → A0 q) (hAX : ∀ q, q < H.size → AX q → A0 q)
    (kx : ∀ (E : String) (ce : Cell) (q9 : Addr) (u : SX) (t : State) (H1 : Heap) (locs1 : List Loc), t.heap = H1 → s.vm.Alike t.vm → px u → BX E u t → H.size ≤ H1.size → (∀ q : Nat, q < H.size → ¬ AX q → H1[q]? = H[q]?) → va_S A0 H0 H1 locs1 → H1[q9]? = some ce → ce.vm = .none → s.vm.findClass E = some ce.cls → vx_W p l e R s m args below meth c H1 locs1 (cells + mc) (slots + ms) Q (F0 m pc ls rest) q9)
    (kk : ∀ (u : S) (t : State) (H1 : Heap) (locs1 : List Loc), t.heap = H1 → s.vm.Alike t.vm → post u → B u t → H.size ≤ H1.size → (∀ q : Nat, q < H.size → ¬ A1 q → H1[q]? = H[q]?) → va_S A0 H0 H1 locs1 → W p l e R s m args below meth c H1 locs1 (cells + mc) (slots + ms) Q (F0 m (pc + 3) ls (rest))) : W p l e R s m args below meth c H locs cells slots Q (F0 m pc ls st0) := by
  intro T hT X
  rcases hr T hT X with ⟨v, st₀, t, T', L, h0, X', hL, e1, e2, ⟨⟨u, hv, hp, hb⟩, hF⟩, st⟩ | ⟨q, st₀, t, T', L, E, ce, h0, X', hL, e1, e2, ⟨u, hp, hb, hF⟩, hce, hcv, hcl, st⟩
  · cases hv
    obtain ⟨k1, k2, k3⟩ := vx_keep h0 e1 hS hA hf hL hF
    obtain ⟨t2, a1, b1⟩ := kk u t T'.heap (locs ++ L) e1.symm (by rw [← e2]; exact X'.warmed.alike) hp hb k1 k2 k3 T' rfl X'
    exact ⟨t2, st t2 a1, b1⟩
  · obtain ⟨k1, k2, k3⟩ := vx_keep h0 e1 hS hAX hf hL hF
    obtain ⟨t2, a1, b1⟩ := kx E ce q u t T'.heap (locs ++ L) e1.symm (by rw [← e2]; exact X'.warmed.alike) hp hb k1 k2 k3 (by rw [e1]; exact hce) hcv hcl T' rfl X'
    exact ⟨t2, st.trans a1, b1⟩
end Rows
section Ends
variable {p : Program} {l : Launch} {e : Env} {R : Room} {s : State} {m : MethodId} {args : Array Value} {below : List Frame} {meth : Method} {c : Code} {H : Heap} {locs : List Loc} {cells slots : Nat} {Q : State → Prop}
variable {mc ms : Nat} {free : Addr → Prop} {A0 A1 : Nat → Prop} {H0 : Heap} {a : Array Value} {ls : Array Slot} {st0 rest : List Value}
variable {Qc : Array Value → State → Outcome → State → Prop} {XC : String → State → State → Prop}
/-- what a body that may throw owes at its end -/
def vx_MQ (below : List Frame) (Qc : Array Value → State → Outcome → State → Prop) (XC : String → State → State → Prop) (a : Array Value) (s : State) (mc ms : Nat) (free : Addr → Prop) : State → Prop := fun t =>
  ∃ o, t.status = .running ∧ Ended t below o ∧ vx_Q Qc XC mc ms free a s o t
theorem vx_ret {g : JFrame} {mc ms : Nat} (k : W p l e R s m args below meth c H locs cells slots (MQ below Qc args s mc ms free) g) : W p l e R s m args below meth c H locs cells slots (vx_MQ below Qc XC args s mc ms free) g := by
  intro T hT X
  obtain ⟨t, a1, o, b1, b2, b3, b4⟩ := k T hT X
  exact ⟨t, a1, o, b1, b2, Or.inl ⟨b3, b4⟩⟩
/-- not caught here: it goes on to the caller -/
theorem vx_widen {g : JFrame} {q : Addr} {k n : Nat} (h1 : cells ≤ k) (h2 : slots ≤ n) (kk : vx_W p l e R s m args below meth c H locs k n Q g q) : vx_W p l e R s m args below meth c H locs cells slots Q g q := fun T hT X => kk T hT (stand_widen X h1 h2)
theorem vx_out {pc : Nat} {E : String} {ce : Cell} {q : Addr} {mc ms : Nat} (hout : ∀ x ∈ c.exceptionTable.toList, covers x pc = false) (hlocks : meth.locks = false) (hcell : H[q]? = some ce) (hv : ce.vm = .none) (hcl : s.vm.findClass E = some ce.cls)
    (hx : ∀ t : State, t.heap = H → s.vm.Alike t.vm → XC E s t) (hf : ∀ z ∈ locs, free z.base) (hc : cells ≤ mc) (hs : slots ≤ ms) :
    vx_W p l e R s m args below meth c H locs cells slots (vx_MQ below Qc XC args s mc ms free) (F0 m pc ls rest) q := by
  intro T hT X
  obtain ⟨st1, hrun, hend, hW, hsm⟩ := X.leaveThrown q (g := F0 m pc ls rest) rfl rfl rfl hout hlocks
  have hcell9 : (T.setFrames (.throwing q :: below)).heap[q]? = some ce := by
    show T.heap[q]? = some ce
    rw [hT]; exact hcell
  exact ⟨_, st1, .threw q, hrun, hend, Or.inr ⟨q, rfl, E, ce, locs, hx _ hT hW.alike, hcell9, hv, hcl, hW, hsm.mono hc hs, hf⟩⟩
theorem vx_frame {U : State} {k n : Nat} (h : s.sameButNew ({ U with vm := s.vm } : State) locs k n) : s.heap.size ≤ U.heap.size ∧ ∀ q : Nat, q < s.heap.size → (∀ z ∈ locs, z.base ≠ q) → U.heap[q]? = s.heap[q]? := by
  obtain ⟨-, h2, -, -, -, h6⟩ := h
  refine ⟨h2, fun q hq hz => ?_⟩
  obtain ⟨c9, e1, e2, e3, e4⟩ := h6 q _ (Array.getElem?_eq_getElem hq)
  have hs : c9.slots = (s.heap[q]).slots := Array.ext_getElem? fun i => e4 i fun hm => hz _ hm rfl
  have h9 : c9 = s.heap[q] := by
    rw [hs] at e2
    exact e2
  have e5 : U.heap[q]? = some c9 := e1
  rw [e5, h9, Array.getElem?_eq_getElem hq]
/-- the words of a throw but the four that speak of the heap -/
def vx_no (w : Cond) : Bool := decide (w ≠ .isRef (.static Bundle.tN "UNASSIGNED_STACK" Bundle.steD)) && decide (w ≠ .isRef (.static Bundle.tN "SUPPRESSED_SENTINEL" Bundle.listD)) && decide (w ≠ .laysStatic Bundle.tN "UNASSIGNED_STACK" Bundle.steD) && decide (w ≠ .laysStatic Bundle.tN "SUPPRESSED_SENTINEL" Bundle.listD)
def vx_at0 (own : String) (ic : Nat) (X : String) (names : List String) : List Cond := (Bundle.ownAtoms0 own ic X names).filter vx_no
def vx_atS (own : String) (ic : Nat) (X : String) (names : List String) : List Cond := (Bundle.ownAtoms own ic X names).filter vx_no
/-- a word that the tables alone decide, or a good one -/
def vx_ot (w : Cond) : Bool := w.onTables || goodWord w
theorem vx_ot_at {args a' : Array Value} {s U : State} {w : Cond} (hW : s.WarmedH U.vm) (hvm : s.vm = U.vm) (hg : vx_ot w = true) (h : w.before args s = true) : w.before a' U = true := by
  simp only [vx_ot, Bool.or_eq_true] at hg
  rcases hg with hg | hg
  · exact va_tabs hg hvm h
  · exact word_at hW (good_of_word hg) h
/-- a list's words: the good ones out of the method's own list, the others by premises of their own -/
theorem vx_hat {args : Array Value} {s : State} {L B : List Cond} (h1 : ∀ w ∈ L.filter goodWord, w.before args s = true) (h2 : ∀ w ∈ L.filter (fun w => !goodWord w), w ∈ B) (h3 : ∀ w ∈ B, w.before args s = true) : ∀ w ∈ L, w.before args s = true := by
  intro w hw
  by_cases g : goodWord w = true
  · exact h1 w (List.mem_filter.mpr ⟨hw, g⟩)
  · refine h3 w (h2 w (List.mem_filter.mpr ⟨hw, ?_⟩))
    show (!goodWord w) = true
    cases hgw : goodWord w
    · rfl
    · exact absurd hgw g
theorem vx_c {args : Array Value} {s : State} {w : Cond} {B : List Cond} (h : w.before args s = true) (t : ∀ w ∈ B, w.before args s = true) : ∀ w' ∈ w :: B, w'.before args s = true := fun w' h' => (List.mem_cons.mp h').elim (fun e => by rw [e]; exact h) (t w')
theorem vx_n {args : Array Value} {s : State} : ∀ w ∈ ([] : List Cond), w.before args s = true := fun _ h => nomatch h
theorem vx_own {args : Array Value} {s : State} {L : List Cond} (h1 : ∀ w ∈ L.filter vx_no, w.before args s = true)
    (hU : (Cond.isRef (.static Bundle.tN "UNASSIGNED_STACK" Bundle.steD)).before args s = true) (hN : (Cond.isRef (.static Bundle.tN "SUPPRESSED_SENTINEL" Bundle.listD)).before args s = true)
    (lU : (Cond.laysStatic Bundle.tN "UNASSIGNED_STACK" Bundle.steD).before args s = true) (lN : (Cond.laysStatic Bundle.tN "SUPPRESSED_SENTINEL" Bundle.listD).before args s = true) : ∀ w ∈ L, w.before args s = true := by
  intro w hw
  by_cases e1 : w = .isRef (.static Bundle.tN "UNASSIGNED_STACK" Bundle.steD)
  · rw [e1]; exact hU
  · by_cases e2 : w = .isRef (.static Bundle.tN "SUPPRESSED_SENTINEL" Bundle.listD)
    · rw [e2]; exact hN
    · by_cases e3 : w = .laysStatic Bundle.tN "UNASSIGNED_STACK" Bundle.steD
      · rw [e3]; exact lU
      · by_cases e4 : w = .laysStatic Bundle.tN "SUPPRESSED_SENTINEL" Bundle.listD
        · rw [e4]; exact lN
        · exact h1 w (List.mem_filter.mpr ⟨hw, by unfold vx_no; rw [decide_eq_true e1, decide_eq_true e2, decide_eq_true e3, decide_eq_true e4]; rfl⟩)
/-- where a static field lies, its class's statics cell in H -/
def vx_L (C n d : String) (A : Nat → Prop) (U : State) (H : Heap) : Prop := ∃ (c : ClassId) (k : Class) (i : Nat) (f : Field) (a : Nat) (cell : Cell), U.vm.findClass C = some c ∧ U.fieldFound? C n d = some (c, k, i, f) ∧ f.isStatic = true ∧ k.statics = some a ∧ H[a]? = some cell ∧ cell.vm.isStatics = true ∧ cell.cls = c ∧ f.slot < cell.slots.size ∧ k.staticTypes[f.slot]? = some f.type ∧ ¬ A a
theorem vx_L.moved {C n d : String} {A : Nat → Prop} {u U : State} {H : Heap} (hvm : u.vm.Alike U.vm) (h : vx_L C n d A u H) : vx_L C n d A U H := by
  obtain ⟨c, k, i, f, a, cell, h1, h2, h3, h4, h5, h6, h7, h8, h9, h10⟩ := h
  obtain ⟨k', hi', he⟩ := State.fieldFound?_setVm hvm h2
  exact ⟨c, k', i, f, a, cell, by rw [hvm.findClass]; exact h1, hi', h3, by rw [he]; exact h4, h5, h6, h7, h8, by rw [he]; exact h9, h10⟩
theorem vx_L.kept {C n d : String} {A : Nat → Prop} {U : State} {H H1 : Heap} (h : vx_L C n d A U H) (hq : ∀ a : Nat, a < H.size → ¬ A a → H1[a]? = H[a]?) : vx_L C n d A U H1 := by
  obtain ⟨c, k, i, f, a, cell, h1, h2, h3, h4, h5, h6, h7, h8, h9, h10⟩ := h
  exact ⟨c, k, i, f, a, cell, h1, h2, h3, h4, by rw [hq a (Array.getElem?_eq_some_iff.mp h5).1 h10]; exact h5, h6, h7, h8, h9, h10⟩
theorem vx_L.narrow {C n d : String} {A B : Nat → Prop} {U : State} {H : Heap} (h : vx_L C n d A U H) (hAB : ∀ q, B q → A q) : vx_L C n d B U H := by
  obtain ⟨c, k, i, f, a, cell, h1, h2, h3, h4, h5, h6, h7, h8, h9, h10⟩ := h
  exact ⟨c, k, i, f, a, cell, h1, h2, h3, h4, h5, h6, h7, h8, h9, fun z => h10 (hAB _ z)⟩
theorem vx_L.word {C n d : String} {A : Nat → Prop} {s : State} {args : Array Value} (h : vx_L C n d A s s.heap) : (Cond.laysStatic C n d).before args s = true := by
  obtain ⟨c, k, i, f, a, cell, h1, h2, h3, h4, h5, h6, h7, h8, h9, -⟩ := h
  show (Cond.laysStatic C n d).holds args s none s [] = true
  exact Cond.laysStatic_of h1 h2 h3 h4 h5 h6 h7 h8 h9
/-- .. and what it holds: null or some reference -/
def vx_Zq (C n d : String) (A : Nat → Prop) (U : State) (H : Heap) : Prop := va_Zq C n d A U H ∧ vx_L C n d A U H
theorem vx_Zq.moved {C n d : String} {A : Nat → Prop} {u U : State} {H : Heap} (hvm : u.vm.Alike U.vm) (h : vx_Zq C n d A u H) : vx_Zq C n d A U H := ⟨va_Zq.moved hvm h.1, vx_L.moved hvm h.2⟩
theorem vx_Zq.kept {C n d : String} {A : Nat → Prop} {U : State} {H H1 : Heap} (h : vx_Zq C n d A U H) (hq : ∀ a : Nat, a < H.size → ¬ A a → H1[a]? = H[a]?) : vx_Zq C n d A U H1 := ⟨va_Zq.kept h.1 hq, vx_L.kept h.2 hq⟩
theorem vx_Zq.narrow {C n d : String} {A B : Nat → Prop} {U : State} {H : Heap} (h : vx_Zq C n d A U H) (hAB : ∀ q, B q → A q) : vx_Zq C n d B U H := ⟨va_Zq.narrow h.1 hAB, vx_L.narrow h.2 hAB⟩
theorem vx_Zqof {args : Array Value} {s : State} {C n d : String} {A : Nat → Prop} (hl : (Cond.laysStatic C n d).before args s = true) (hini : (Cond.initialized C).before args s = true) (h : (Cond.isRef (.static C n d)).before args s = true) (hA : ∀ a : Nat, a < s.heap.size → ¬ A a) : vx_Zq C n d A s s.heap := by
  refine ⟨va_Zqof hl hini h hA, ?_⟩
  obtain ⟨c, k, i, f, a, cell, h1, h2, h3, h4, h5, h6, h7, h8, h9⟩ := Cond.laysStatic_spec hl
  exact ⟨c, k, i, f, a, cell, h1, h2, h3, h4, h5, h6, h7, h8, h9, hA a (Array.getElem?_eq_some_iff.mp h5).1⟩
theorem vx_isRef {C n d : String} {v : Value} {A : Nat → Prop} {s : State} {args : Array Value} (h : va_Z C n d v A s s.heap) (hv : v.isRef = true) : (Cond.isRef (.static C n d)).before args s = true := by
  obtain ⟨cf, kf, fi, f, a, cell, h1, h2, h3, h4, h5, h6, h7, -⟩ := h
  have he : (Term.static C n d).eval args s none [] s = some v := by
    simp [Term.eval, State.fieldNamed?, h1, h2, h4, h5, h6, h7]
  simp only [Cond.before, Cond.holds, Cond.value, he]
  cases v <;> simp_all [Value.isRef]
theorem vx_isRefq {C n d : String} {A : Nat → Prop} {s : State} {args : Array Value} (h : va_Zq C n d A s s.heap) : (Cond.isRef (.static C n d)).before args s = true := by
  rcases h with h | ⟨t, h⟩
  · exact vx_isRef h rfl
  · exact vx_isRef h rfl
/-- the same frame, seen from here: as if the method were called anew in this heap -/
theorem vx_rebase {T : State} (X : Stand p l e R s m args below meth c T locs cells slots) {R' : Room} (hf : R'.frames ≤ R.frames) (hl : R'.locals ≤ R.locals) (hc : cells + R'.cells ≤ R.cells) (hs : slots + R'.slots ≤ R.slots) :
    Stand p l e R' ((T.setVm s.vm).setFrames (.invoking m args :: below)) m args below meth c T [] 0 0 := by
  have htop : (T.setVm s.vm).topJava?.isSome := X.here.top
  have hF : ((T.setVm s.vm).setFrames (.invoking m args :: below)).frames = .invoking m args :: below := State.frames_setFrames _ (State.cur_lt_of_top htop)
  obtain ⟨g₀, hg0⟩ := Option.isSome_iff_exists.mp htop
  obtain ⟨r, hr⟩ := State.topJava?_eq_some.mp hg0
  have hl9 : e.platform.stackLimits (T.setVm s.vm).me = e.platform.stackLimits s.me := X.limits
  have hb9 : (T.setVm s.vm).me.stackBytes = s.me.stackBytes := X.bytes
  refine ⟨X.admits, X.cas, X.clock, hF, ?_, X.hears, X.method, X.code, X.here, X.tail, X.warmed, ?_, ?_, ?_⟩
  · have h := X.room
    have hU : ((T.setVm s.vm).setFrames (.invoking m args :: below)).localsInUse = s.localsInUse := by
      rw [State.localsInUse_invoking hF (meth := meth) (c := c) X.method X.code, State.localsInUse_invoking X.frames X.method X.code]
    simp only [State.hasRoom, Bool.and_eq_true, decide_eq_true_eq] at h ⊢
    obtain ⟨⟨⟨⟨h1, h2, h3, h4, h5, h6⟩, h7⟩, h8⟩, h9⟩ := h
    rw [X.frames, List.length_cons] at h2 h3
    have q1 := X.heapSize
    have q2 := X.used
    simp only [hF, hU, List.length_cons, State.stackLimits_setFrames, State.stackBytes_setFrames, hl9, hb9]
    refine ⟨⟨⟨⟨by omega, by omega, by omega, by omega, by omega, h6⟩, ?_⟩, ?_⟩, X.book⟩
    · show T.heap.size + R'.cells ≤ e.platform.maxCells
      omega
    · show T.slotsUsed + R'.slots ≤ e.platform.maxSlots
      omega
  · rw [State.stackLimits_setFrames]; rfl
  · rw [State.stackBytes_setFrames]; rfl
  · refine ⟨?_, Nat.le_refl _, Nat.le_refl _, ?_, ?_, fun a c9 h9 => ⟨c9, h9, rfl, rfl, fun _ _ => rfl⟩⟩
    · obtain ⟨t, ht, -⟩ := State.frames_cons hr
      show T.setVm s.vm = { ((T.setVm s.vm).setFrames (.invoking m args :: below)).setFrames (T.setVm s.vm).frames with heap := T.heap, slotsUsed := T.slotsUsed }
      rw [State.setFrames_setFrames, State.setFrames_self ht]
      rfl
    · show T.slotsUsed = T.slotsUsed + ((T.heap.toList.drop T.heap.size).map (·.slots.size)).sum
      rw [List.drop_eq_nil_of_le (Nat.le_of_eq Array.length_toList)]
      rfl
    · show ((T.heap.toList.drop T.heap.size).map (·.slots.size)).sum ≤ 0
      rw [List.drop_eq_nil_of_le (Nat.le_of_eq Array.length_toList)]
      exact Nat.le_refl _
/-- 'throw new E()': new; dup; invokespecial; athrow -/
theorem vx_throw0 {cc : ByteArray} {pc : Nat} (hexec : p.tables.exec = Jvm.exec) (hb : c.code = cc) (hl : l.stackTraces = false) {own cls : String} {names : List String} {ik ic mc ms : Nat} {A : Nat → Prop}
    (hown : s.vm.findClass own = some m.cls) (hcls : Bundle.fit cls = true) (hnames : ∀ n ∈ names, Bundle.fit n = true)
    (hk : (Cond.classLink own ik cls).before args s = true) (hini : (Cond.initialized cls).before args s = true) (hat : ∀ w ∈ vx_at0 own ic cls names, w.before args s = true)
    (hgood : ∀ w ∈ Cond.classLink own ik cls :: Cond.initialized cls :: vx_at0 own ic cls names, vx_ot w = true)
    (hU : vx_Zq Bundle.tN "UNASSIGNED_STACK" Bundle.steD A s s.heap) (hN : vx_Zq Bundle.tN "SUPPRESSED_SENTINEL" Bundle.listD A s s.heap) (hS : va_S A s.heap H locs) (hsize : ls.size = c.maxLocals)
    (d0 : decode cc pc = .ok (.new ik, 3)) (d3 : decode cc (pc + 3) = .ok (.dup, 1)) (d4 : decode cc (pc + 4) = .ok (.invokespecial ic, 3)) (d7 : decode cc (pc + 7) = .ok (.athrow, 1))
    (hout : ∀ x ∈ c.exceptionTable.toList, covers x (pc + 7) = false)
    (hRframes : names.length + 3 < R.frames) (hRlocals : (rest.map fun v => v.category).sum + (13 * (names.length + 1) + 42) ≤ R.locals) (hRcells : cells + 1 ≤ R.cells) (hRslots : slots + 6 ≤ R.slots) (hlocks : meth.locks = false)
    (hx : ∀ t : State, s.vm.Alike t.vm → H.size ≤ t.heap.size → (∀ q : Nat, q < H.size → t.heap[q]? = H[q]?) → XC cls s t)
    (hf : ∀ z ∈ locs, free z.base) (hc : cells + 1 ≤ mc) (hs : slots + 6 ≤ ms) :
    W p l e R s m args below meth c H locs cells slots (vx_MQ below Qc XC args s mc ms free) (F0 m pc ls rest) := by
  intro T hT X
  have htr : e.platform.stackTraces = false := (show e.platform.stackTraces = l.stackTraces by rw [X.admits.platform]).trans hl
  have Y := vx_rebase X (R' := { frames := R.frames, locals := R.locals, cells := 1, slots := 6 }) (Nat.le_refl _) (Nat.le_refl _) hRcells hRslots
  obtain ⟨s', hA⟩ : ∃ z, z = (T.setVm s.vm).setFrames (.invoking m args :: below) := ⟨_, rfl⟩
  rw [← hA] at Y
  have hvm : s'.vm = s.vm := by rw [hA]; rfl
  have hhp : s'.heap = H := by rw [hA]; exact hT
  have hW0 : s.WarmedH s'.vm := by rw [hvm]; exact State.WarmedH.refl s
  have hat' : ∀ w ∈ vx_at0 own ic cls names, w.before args s' = true := fun w hw => vx_ot_at hW0 hvm.symm (hgood w (List.mem_cons_of_mem _ (List.mem_cons_of_mem _ hw))) (hat w hw)
  have hk' : (Cond.classLink own ik cls).before args s' = true := vx_ot_at hW0 hvm.symm (hgood _ List.mem_cons_self) hk
  have hini' : (Cond.initialized cls).before args s' = true := vx_ot_at hW0 hvm.symm (hgood _ (List.mem_cons_of_mem _ List.mem_cons_self)) hini
  have hU' : vx_Zq Bundle.tN "UNASSIGNED_STACK" Bundle.steD A s' s'.heap := by rw [hhp]; exact vx_Zq.moved hW0.alike (hU.kept hS.2.1)
  have hN' : vx_Zq Bundle.tN "SUPPRESSED_SENTINEL" Bundle.listD A s' s'.heap := by rw [hhp]; exact vx_Zq.moved hW0.alike (hN.kept hS.2.1)
  have h : ∀ w ∈ Bundle.ownAtoms0 own ic cls names, w.before args s' = true := vx_own hat' (vx_isRefq hU'.1) (vx_isRefq hN'.1) hU'.2.word hN'.2.word
  have hown' : s'.vm.findClass own = some m.cls := by rw [hvm]; exact hown
  have hins : (Cond.instantiable cls 6).before args s' = true := h _ (by simp [Bundle.ownAtoms0])
  obtain ⟨vm₁, cX, kX, hfX, hkX, -, -, X₁, st1⟩ := Y.newCold hexec (own := own) (C := cls) (index := ik) (n := 6) hown' hk' hins hini'
    (g := F0 m pc ls rest) rfl (by rw [hb]; exact d0) (Nat.le_refl _) (Nat.le_refl _)
  generalize hT1 : (T.setVm vm₁).pushCell { cls := cX, slots := kX.instanceTypes.map defaultValue, vm := .none } = T1 at X₁ st1
  have hcat : (Value.ref T.heap.size).category = 1 := rfl
  have hcellA : T1.heap[T.heap.size]? = some (freshCell cX kX) := by rw [← hT1]; exact State.heap_pushCell_size _ _
  have d3' : decode c.code (pc + 3) = .ok (.dup, 1) := by rw [hb]; exact d3
  obtain ⟨U, hsteps, hrun, hend, hW, hsame, ce, hce, hO⟩ := X₁.ctorThrow0 hexec htr (own := own) (cls := cls) (names := names) (ic := ic) hown' hcls hnames h (fun x hx => nomatch hx) hfX hkX hcellA (by rw [hhp, hT]; exact Nat.le_refl _)
    (g := { method := m, pc := pc + 4, locals := ls, stack := .ref T.heap.size :: .ref T.heap.size :: rest, locked := none }) rfl hsize rfl rfl (rest := rest) rfl
    (by rw [hb]; exact d4) (by rw [hb]; exact d7) hout hRframes (by simp only [List.map_cons, List.sum_cons, hcat]; omega) hlocks
  obtain ⟨f1, f2⟩ := vx_frame hsame
  rw [hhp] at f1 f2
  have hWs : s.WarmedH U.vm := State.WarmedH.trans hW0 hW
  have hcl : s.vm.findClass cls = some ce.cls := by
    have h9 := hO.cls
    rw [hvm] at h9
    exact h9
  have hall : s.sameButNew ({ U with vm := s.vm } : State) locs mc ms := by
    subst hA
    obtain ⟨e1, e2⟩ := hsame
    rw [State.setFrames_setFrames] at e1
    have h2 : (T.setVm s.vm).sameButNew ({ U with vm := s.vm } : State) [] (0 + 1) (0 + 6) := ⟨e1, e2⟩
    have h3 := X.same.trans h2
    rw [List.append_nil] at h3
    exact h3.mono hc hs
  refine ⟨U, ?_, .threw T.heap.size, hrun, hend, Or.inr ⟨T.heap.size, rfl, cls, ce, locs, hx U hWs.alike f1 (fun q hq => f2 q hq (fun z hz => nomatch hz)), hce, hO.vm, hcl, hWs, hall, hf⟩⟩
  refine st1 _ ?_
  show Steps p.tables e below (T1.setTop { method := m, pc := pc + 3, locals := ls, stack := .ref T.heap.size :: rest, locked := none }) _
  jvm_step X₁.here [X₁.here.top, hexec, d3', Value.category]
  exact hsteps
/-- 'throw new E("text")': new; dup; ldc; invokespecial; athrow -/
theorem vx_throwS {cc : ByteArray} {pc : Nat} (hexec : p.tables.exec = Jvm.exec) (hb : c.code = cc) (hl : l.stackTraces = false) {own cls text : String} {names : List String} {ik is ic mc ms sa : Nat} {A : Nat → Prop}
    (hown : s.vm.findClass own = some m.cls) (hcls : Bundle.fit cls = true) (hnames : ∀ n ∈ names, Bundle.fit n = true)
    (hk : (Cond.classLink own ik cls).before args s = true) (hini : (Cond.initialized cls).before args s = true) (hstr : vk_R own is text sa s) (hat : ∀ w ∈ vx_atS own ic cls names, w.before args s = true)
    (hgood : ∀ w ∈ Cond.classLink own ik cls :: Cond.initialized cls :: vx_atS own ic cls names, vx_ot w = true)
    (hU : vx_Zq Bundle.tN "UNASSIGNED_STACK" Bundle.steD A s s.heap) (hN : vx_Zq Bundle.tN "SUPPRESSED_SENTINEL" Bundle.listD A s s.heap) (hS : va_S A s.heap H locs) (hsize : ls.size = c.maxLocals)
    (d0 : decode cc pc = .ok (.new ik, 3)) (d3 : decode cc (pc + 3) = .ok (.dup, 1)) (d4 : decode cc (pc + 4) = .ok (.ldc is, 2)) (d6 : decode cc (pc + 6) = .ok (.invokespecial ic, 3)) (d9 : decode cc (pc + 9) = .ok (.athrow, 1))
    (hout : ∀ x ∈ c.exceptionTable.toList, covers x (pc + 9) = false)
    (hRframes : names.length + 3 < R.frames) (hRlocals : (rest.map fun v => v.category).sum + (13 * (names.length + 1) + 43) ≤ R.locals) (hRcells : cells + 1 ≤ R.cells) (hRslots : slots + 6 ≤ R.slots) (hlocks : meth.locks = false)
    (hx : ∀ t : State, s.vm.Alike t.vm → H.size ≤ t.heap.size → (∀ q : Nat, q < H.size → t.heap[q]? = H[q]?) → XC cls s t)
    (hf : ∀ z ∈ locs, free z.base) (hc : cells + 1 ≤ mc) (hs : slots + 6 ≤ ms) :
    W p l e R s m args below meth c H locs cells slots (vx_MQ below Qc XC args s mc ms free) (F0 m pc ls rest) := by
  intro T hT X
  have htr : e.platform.stackTraces = false := (show e.platform.stackTraces = l.stackTraces by rw [X.admits.platform]).trans hl
  have Y := vx_rebase X (R' := { frames := R.frames, locals := R.locals, cells := 1, slots := 6 }) (Nat.le_refl _) (Nat.le_refl _) hRcells hRslots
  obtain ⟨s', hA⟩ : ∃ z, z = (T.setVm s.vm).setFrames (.invoking m args :: below) := ⟨_, rfl⟩
  rw [← hA] at Y
  have hvm : s'.vm = s.vm := by rw [hA]; rfl
  have hhp : s'.heap = H := by rw [hA]; exact hT
  have hW0 : s.WarmedH s'.vm := by rw [hvm]; exact State.WarmedH.refl s
  have hat' : ∀ w ∈ vx_atS own ic cls names, w.before args s' = true := fun w hw => vx_ot_at hW0 hvm.symm (hgood w (List.mem_cons_of_mem _ (List.mem_cons_of_mem _ hw))) (hat w hw)
  have hk' : (Cond.classLink own ik cls).before args s' = true := vx_ot_at hW0 hvm.symm (hgood _ List.mem_cons_self) hk
  have hini' : (Cond.initialized cls).before args s' = true := vx_ot_at hW0 hvm.symm (hgood _ (List.mem_cons_of_mem _ List.mem_cons_self)) hini
  have hU' : vx_Zq Bundle.tN "UNASSIGNED_STACK" Bundle.steD A s' s'.heap := by rw [hhp]; exact vx_Zq.moved hW0.alike (hU.kept hS.2.1)
  have hN' : vx_Zq Bundle.tN "SUPPRESSED_SENTINEL" Bundle.listD A s' s'.heap := by rw [hhp]; exact vx_Zq.moved hW0.alike (hN.kept hS.2.1)
  have h : ∀ w ∈ Bundle.ownAtoms own ic cls names, w.before args s' = true := vx_own hat' (vx_isRefq hU'.1) (vx_isRefq hN'.1) hU'.2.word hN'.2.word
  have hown' : s'.vm.findClass own = some m.cls := by rw [hvm]; exact hown
  have hins : (Cond.instantiable cls 6).before args s' = true := h _ (by simp [Bundle.ownAtoms])
  obtain ⟨vm₁, cX, kX, hfX, hkX, -, -, X₁, st1⟩ := Y.newCold hexec (own := own) (C := cls) (index := ik) (n := 6) hown' hk' hins hini'
    (g := F0 m pc ls rest) rfl (by rw [hb]; exact d0) (Nat.le_refl _) (Nat.le_refl _)
  generalize hT1 : (T.setVm vm₁).pushCell { cls := cX, slots := kX.instanceTypes.map defaultValue, vm := .none } = T1 at X₁ st1
  have hcat : (Value.ref T.heap.size).category = 1 := rfl
  have hcellA : T1.heap[T.heap.size]? = some (freshCell cX kX) := by rw [← hT1]; exact State.heap_pushCell_size _ _
  have d3' : decode c.code (pc + 3) = .ok (.dup, 1) := by rw [hb]; exact d3
  have d4' : decode c.code (pc + 4) = .ok (.ldc is, 2) := by rw [hb]; exact d4
  have hstr' : vk_R own is text sa s' := vk_R.warm hW0 hstr
  obtain ⟨U, hsteps, hrun, hend, hW, hsame, ce, hce, hO⟩ := X₁.ctorThrowS hexec htr (own := own) (cls := cls) (names := names) (ic := ic) hown' hcls hnames h (fun x hx => nomatch hx) hfX hkX hcellA (by rw [hhp, hT]; exact Nat.le_refl _) (msg := .ref sa) rfl
    (g := { method := m, pc := pc + 6, locals := ls, stack := .ref sa :: .ref T.heap.size :: .ref T.heap.size :: rest, locked := none }) rfl hsize rfl rfl (rest := rest) rfl
    (by rw [hb]; exact d6) (by rw [hb]; exact d9) hout hRframes (by simp only [List.map_cons, List.sum_cons, hcat]; omega) hlocks
  obtain ⟨f1, f2⟩ := vx_frame hsame
  rw [hhp] at f1 f2
  have hWs : s.WarmedH U.vm := State.WarmedH.trans hW0 hW
  have hcl : s.vm.findClass cls = some ce.cls := by
    have h9 := hO.cls
    rw [hvm] at h9
    exact h9
  have hall : s.sameButNew ({ U with vm := s.vm } : State) locs mc ms := by
    subst hA
    obtain ⟨e1, e2⟩ := hsame
    rw [State.setFrames_setFrames] at e1
    have h2 : (T.setVm s.vm).sameButNew ({ U with vm := s.vm } : State) [] (0 + 1) (0 + 6) := ⟨e1, e2⟩
    have h3 := X.same.trans h2
    rw [List.append_nil] at h3
    exact h3.mono hc hs
  refine ⟨U, ?_, .threw T.heap.size, hrun, hend, Or.inr ⟨T.heap.size, rfl, cls, ce, locs, hx U hWs.alike f1 (fun q hq => f2 q hq (fun z hz => nomatch hz)), hce, hO.vm, hcl, hWs, hall, hf⟩⟩
  refine st1 _ ?_
  show Steps p.tables e below (T1.setTop { method := m, pc := pc + 3, locals := ls, stack := .ref T.heap.size :: rest, locked := none }) _
  jvm_step X₁.here [X₁.here.top, hexec, d3', Value.category]
  exact X₁.ldcString hexec (own := own) (text := text) (index := is) (a := sa) hown' hstr'.1 hstr'.2
    (g := { method := m, pc := pc + 4, locals := ls, stack := .ref T.heap.size :: .ref T.heap.size :: rest, locked := none }) rfl d4' _ hsteps
/-- 'throw new E("text")', the text by a wide index -/
theorem vx_throwSW {cc : ByteArray} {pc : Nat} (hexec : p.tables.exec = Jvm.exec) (hb : c.code = cc) (hl : l.stackTraces = false) {own cls text : String} {names : List String} {ik is ic mc ms sa : Nat} {A : Nat → Prop}
    (hown : s.vm.findClass own = some m.cls) (hcls : Bundle.fit cls = true) (hnames : ∀ n ∈ names, Bundle.fit n = true)
    (hk : (Cond.classLink own ik cls).before args s = true) (hini : (Cond.initialized cls).before args s = true) (hstr : vk_R own is text sa s) (hat : ∀ w ∈ vx_atS own ic cls names, w.before args s = true)
    (hgood : ∀ w ∈ Cond.classLink own ik cls :: Cond.initialized cls :: vx_atS own ic cls names, vx_ot w = true)
    (hU : vx_Zq Bundle.tN "UNASSIGNED_STACK" Bundle.steD A s s.heap) (hN : vx_Zq Bundle.tN "SUPPRESSED_SENTINEL" Bundle.listD A s s.heap) (hS : va_S A s.heap H locs) (hsize : ls.size = c.maxLocals)
    (d0 : decode cc pc = .ok (.new ik, 3)) (d3 : decode cc (pc + 3) = .ok (.dup, 1)) (d4 : decode cc (pc + 4) = .ok (.ldc_w is, 3)) (d7 : decode cc (pc + 7) = .ok (.invokespecial ic, 3)) (d10 : decode cc (pc + 10) = .ok (.athrow, 1))
    (hout : ∀ x ∈ c.exceptionTable.toList, covers x (pc + 10) = false)
    (hRframes : names.length + 3 < R.frames) (hRlocals : (rest.map fun v => v.category).sum + (13 * (names.length + 1) + 43) ≤ R.locals) (hRcells : cells + 1 ≤ R.cells) (hRslots : slots + 6 ≤ R.slots) (hlocks : meth.locks = false)
    (hx : ∀ t : State, s.vm.Alike t.vm → H.size ≤ t.heap.size → (∀ q : Nat, q < H.size → t.heap[q]? = H[q]?) → XC cls s t)
    (hf : ∀ z ∈ locs, free z.base) (hc : cells + 1 ≤ mc) (hs : slots + 6 ≤ ms) :
    W p l e R s m args below meth c H locs cells slots (vx_MQ below Qc XC args s mc ms free) (F0 m pc ls rest) := by
  intro T hT X
  have htr : e.platform.stackTraces = false := (show e.platform.stackTraces = l.stackTraces by rw [X.admits.platform]).trans hl
  have Y := vx_rebase X (R' := { frames := R.frames, locals := R.locals, cells := 1, slots := 6 }) (Nat.le_refl _) (Nat.le_refl _) hRcells hRslots
  obtain ⟨s', hA⟩ : ∃ z, z = (T.setVm s.vm).setFrames (.invoking m args :: below) := ⟨_, rfl⟩
  rw [← hA] at Y
  have hvm : s'.vm = s.vm := by rw [hA]; rfl
  have hhp : s'.heap = H := by rw [hA]; exact hT
  have hW0 : s.WarmedH s'.vm := by rw [hvm]; exact State.WarmedH.refl s
  have hat' : ∀ w ∈ vx_atS own ic cls names, w.before args s' = true := fun w hw => vx_ot_at hW0 hvm.symm (hgood w (List.mem_cons_of_mem _ (List.mem_cons_of_mem _ hw))) (hat w hw)
  have hk' : (Cond.classLink own ik cls).before args s' = true := vx_ot_at hW0 hvm.symm (hgood _ List.mem_cons_self) hk
  have hini' : (Cond.initialized cls).before args s' = true := vx_ot_at hW0 hvm.symm (hgood _ (List.mem_cons_of_mem _ List.mem_cons_self)) hini
  have hU' : vx_Zq Bundle.tN "UNASSIGNED_STACK" Bundle.steD A s' s'.heap := by rw [hhp]; exact vx_Zq.moved hW0.alike (hU.kept hS.2.1)
  have hN' : vx_Zq Bundle.tN "SUPPRESSED_SENTINEL" Bundle.listD A s' s'.heap := by rw [hhp]; exact vx_Zq.moved hW0.alike (hN.kept hS.2.1)
  have h : ∀ w ∈ Bundle.ownAtoms own ic cls names, w.before args s' = true := vx_own hat' (vx_isRefq hU'.1) (vx_isRefq hN'.1) hU'.2.word hN'.2.word
  have hown' : s'.vm.findClass own = some m.cls := by rw [hvm]; exact hown
  have hins : (Cond.instantiable cls 6).before args s' = true := h _ (by simp [Bundle.ownAtoms])
  obtain ⟨vm₁, cX, kX, hfX, hkX, -, -, X₁, st1⟩ := Y.newCold hexec (own := own) (C := cls) (index := ik) (n := 6) hown' hk' hins hini'
    (g := F0 m pc ls rest) rfl (by rw [hb]; exact d0) (Nat.le_refl _) (Nat.le_refl _)
  generalize hT1 : (T.setVm vm₁).pushCell { cls := cX, slots := kX.instanceTypes.map defaultValue, vm := .none } = T1 at X₁ st1
  have hcat : (Value.ref T.heap.size).category = 1 := rfl
  have hcellA : T1.heap[T.heap.size]? = some (freshCell cX kX) := by rw [← hT1]; exact State.heap_pushCell_size _ _
  have d3' : decode c.code (pc + 3) = .ok (.dup, 1) := by rw [hb]; exact d3
  have d4' : decode c.code (pc + 4) = .ok (.ldc_w is, 3) := by rw [hb]; exact d4
  have hstr' : vk_R own is text sa s' := vk_R.warm hW0 hstr
  obtain ⟨U, hsteps, hrun, hend, hW, hsame, ce, hce, hO⟩ := X₁.ctorThrowS hexec htr (own := own) (cls := cls) (names := names) (ic := ic) hown' hcls hnames h (fun x hx => nomatch hx) hfX hkX hcellA (by rw [hhp, hT]; exact Nat.le_refl _) (msg := .ref sa) rfl
    (g := { method := m, pc := pc + 7, locals := ls, stack := .ref sa :: .ref T.heap.size :: .ref T.heap.size :: rest, locked := none }) rfl hsize rfl rfl (rest := rest) rfl
    (by rw [hb]; exact d7) (by rw [hb]; exact d10) hout hRframes (by simp only [List.map_cons, List.sum_cons, hcat]; omega) hlocks
  obtain ⟨f1, f2⟩ := vx_frame hsame
  rw [hhp] at f1 f2
  have hWs : s.WarmedH U.vm := State.WarmedH.trans hW0 hW
  have hcl : s.vm.findClass cls = some ce.cls := by
    have h9 := hO.cls
    rw [hvm] at h9
    exact h9
  have hall : s.sameButNew ({ U with vm := s.vm } : State) locs mc ms := by
    subst hA
    obtain ⟨e1, e2⟩ := hsame
    rw [State.setFrames_setFrames] at e1
    have h2 : (T.setVm s.vm).sameButNew ({ U with vm := s.vm } : State) [] (0 + 1) (0 + 6) := ⟨e1, e2⟩
    have h3 := X.same.trans h2
    rw [List.append_nil] at h3
    exact h3.mono hc hs
  refine ⟨U, ?_, .threw T.heap.size, hrun, hend, Or.inr ⟨T.heap.size, rfl, cls, ce, locs, hx U hWs.alike f1 (fun q hq => f2 q hq (fun z hz => nomatch hz)), hce, hO.vm, hcl, hWs, hall, hf⟩⟩
  refine st1 _ ?_
  show Steps p.tables e below (T1.setTop { method := m, pc := pc + 3, locals := ls, stack := .ref T.heap.size :: rest, locked := none }) _
  jvm_step X₁.here [X₁.here.top, hexec, d3', Value.category]
  exact X₁.ldcStringW hexec (own := own) (text := text) (index := is) (a := sa) hown' hstr'.1 hstr'.2
    (g := { method := m, pc := pc + 4, locals := ls, stack := .ref T.heap.size :: .ref T.heap.size :: rest, locked := none }) rfl d4' _ hsteps
end Ends
section Bodies
variable {l : Launch}
theorem vx_ofW {y : MethodName} {ws ws' : List Cond} {rm : Room} {Pc : Array Value → State → Prop} {Qc : Array Value → State → Outcome → State → Prop} {XC : String → State → State → Prop} {mc ms : Nat} {free : Addr → Prop} {cc : ByteArray} {maxL : Nat} {ret : Option FieldType}
    (hy : plainName y.cls = true) (hw : ws = Cond.code y cc maxL ret :: ws')
    (body : ∀ p e s m args below meth c s₁, BodyLoose p l y (headSpec ws rm) cc maxL ret e s m args below meth c s₁ → c.maxLocals = maxL → (∀ x ∈ c.exceptionTable.toList, False) → Pc args s →
      W p l e (headSpec ws rm).room s m args below meth c s.heap [] 0 0 (vx_MQ below Qc XC args s mc ms free) (entryFrame m args maxL)) : vx_Met l y ws rm Pc Qc XC mc ms free := by
  refine MetFree.of_bodyS (code := cc) (maxLocals := maxL) (ret := ret) hy ?_ ?_
  · intro args s m h hn
    obtain ⟨meth, c, h1, h2, h3, h4, h5, h6, -, -⟩ := Cond.code_spec hn (atoms_spec (ws := ws) h _ (by rw [hw]; exact List.mem_cons_self))
    exact ⟨meth, c, h1, h2, h3, h4, h5, h6⟩
  · intro p e s m args below meth c s₁ B hml hP _
    have hh0 : s₁.heap = s.heap := by rw [B.state]; rfl
    have ht : ∀ x ∈ c.exceptionTable.toList, False := by
      obtain ⟨meth9, c9, h1, h2, -, -, -, -, h7, -⟩ := Cond.code_spec B.named (atoms_spec (ws := ws) B.pre _ (by rw [hw]; exact List.mem_cons_self))
      cases Option.some.inj (h1.symm.trans B.method)
      cases Option.some.inj (h2.symm.trans (Stand.of_body B).code)
      intro x hx
      rw [Array.isEmpty_iff.mp h7] at hx
      cases hx
    obtain ⟨t, a1, o, b1, b2, b3⟩ := body p e s m args below meth c s₁ B hml ht hP s₁ hh0 (Stand.of_body B)
    exact ⟨t, o, a1, b1, b2, b3⟩
/-- the table of a body with handlers -/
theorem vx_table {p : Program} {x y : MethodName} {S : Spec} {cc bytes : ByteArray} {maxL maxL' : Nat} {ret ret' : Option FieldType} {e : Env} {s s₁ : State} {m : MethodId} {args : Array Value} {below : List Frame} {meth : Method} {c : Code} {hh : List (Nat × Nat × Nat × Nat)}
    (B : BodyLoose p l y S cc maxL ret e s m args below meth c s₁) (h : (Cond.codeWith y bytes maxL' ret' hh).before args s = true) : c.exceptionTable.toList = tableOf hh := by
  obtain ⟨m9, meth9, c9, hn9, h1, h2, -, -, h6, -⟩ := Cond.codeWith_spec h
  cases Option.some.inj (hn9.symm.trans B.named)
  cases Option.some.inj (h1.symm.trans B.method)
  cases Option.some.inj (h2.symm.trans (Stand.of_body B).code)
  rw [← h6, table_eq]
end Bodies
end VXA
/-! ===== END ===== -/
/-! ===== BEGIN a static call of a method with an exception table ===== -/
section VXS
variable {p : Program} {l : Launch} {e : Env} {R : Room} {s : State} {m : MethodId} {args : Array Value} {below : List Frame} {meth : Method} {c : Code} {T : State} {H : Heap} {locs : List Loc} {cells slots : Nat}
abbrev vx_CSW (R : Room) (s : State) (args : Array Value) (own : String) (index : Nat) (y : MethodName) (bytes : ByteArray) (maxL : Nat) (ret : Option FieldType) (hh : List (Nat × Nat × Nat × Nat)) (ws : List Cond) (rm : Room) (mc ms n : Nat) : Prop :=
  (rm.cells = mc ∧ rm.slots = ms ∧ rm.frames + 1 ≤ R.frames ∧ 8 + (maxL + 11) + rm.locals ≤ R.locals ∧ (∀ w ∈ ws, ∀ (a' : Array Value) (U : State), s.WarmedH U.vm → w.before a' U = true) ∧ Cond.codeWith y bytes maxL ret hh ∈ ws) ∧
  (Cond.codeWith y bytes maxL ret hh).before args s = true ∧ (Cond.initialized y.cls).before args s = true ∧ (y.cls ≠ "java/lang/invoke/MethodHandle" ∧ y.cls ≠ "java/lang/invoke/VarHandle") ∧
  (∀ sig, parseMethodDescriptor y.desc = some sig → n = sig.parameters.length) ∧ (Cond.methodLink own index y).before args s = true ∧ (Cond.static y).before args s = true
theorem vx_cwSW {own : String} {index maxL mc ms : Nat} {y : MethodName} {bytes : ByteArray} {ret : Option FieldType} {hh : List (Nat × Nat × Nat × Nat)} {Ts ws ws' : List Cond} {rm : Room} (n : Nat) (ht : ∀ w ∈ Ts, w.before args s = true) (hT : GoodIn Ts (va_wsS own index y ws)) (hw : ws = Cond.codeWith y bytes maxL ret hh :: ws') (hrc : rm.cells = mc) (hrs : rm.slots = ms)
    (hd : y.cls ≠ "java/lang/invoke/MethodHandle" ∧ y.cls ≠ "java/lang/invoke/VarHandle" ∧ (parseMethodDescriptor y.desc).map (fun d => d.parameters.length) = some n) (hR : rm.frames + 1 ≤ R.frames ∧ 8 + (maxL + 11) + rm.locals ≤ R.locals) :
    vx_CSW R s args own index y bytes maxL ret hh ws rm mc ms n := by
  have ok : ∀ w ∈ va_wsS own index y ws, w.before args s = true := fun w h => ht w (hT w h).1
  have hG : GoodIn Ts ws := fun w h => hT w (by unfold va_wsS; exact List.mem_append_right _ h)
  have hc : Cond.codeWith y bytes maxL ret hh ∈ ws := by rw [hw]; exact List.mem_cons_self
  refine ⟨⟨hrc, hrs, hR.1, hR.2, pay_in ht hG, hc⟩, ht _ (hG _ hc).1, ok _ (by simp [va_wsS]), ⟨hd.1, hd.2.1⟩, fun sig h => ?_, ok _ (by simp [va_wsS]), ok _ (by simp [va_wsS])⟩
  have h2 := hd.2.2
  rw [h] at h2
  exact (Option.some.inj h2).symm
theorem vx_callSW (X : Stand p l e R s m args below meth c T locs cells slots) (hexec : p.tables.exec = Jvm.exec) {own : String} {index : Nat} {y : MethodName} {bytes : ByteArray} {maxL : Nat} {ret : Option FieldType} {hh : List (Nat × Nat × Nat × Nat)}
    (hown : s.vm.findClass own = some m.cls) (hlink : (Cond.methodLink own index y).before args s = true) (hstat : (Cond.static y).before args s = true) (hinit : (Cond.initialized y.cls).before args s = true)
    (hcode : (Cond.codeWith y bytes maxL ret hh).before args s = true) (hy : y.cls ≠ "java/lang/invoke/MethodHandle" ∧ y.cls ≠ "java/lang/invoke/VarHandle")
    {W9 : Nat} {Pre : Pt → Array Value → Prop} {Post : Pt → Array Value → Option Value → Pt → Prop} (hK : Back l R p e below s args y 3 W9 Pre Post)
    {g : JFrame} (hg : g.method = m) (hsize : g.locals.size = c.maxLocals) {argsL rest : List Value} (hlen : ∀ sig, parseMethodDescriptor y.desc = some sig → argsL.length = sig.parameters.length)
    (hstack : g.stack = argsL.reverse ++ rest) (hW : 2 * g.monitorRoom + (rest.map fun v => v.category).sum ≤ W9) (hdg : decode c.code g.pc = .ok (.invokestatic index, 3))
    (hpre : ∀ vm₁, s.WarmedH vm₁ → Pre ⟨T.setVm vm₁, locs, cells, slots⟩ argsL.toArray) :
    ∃ (v : Option Value) (vm₁ : Vm) (B : Pt), s.WarmedH vm₁ ∧ Stand p l e R s m args below meth c B.U B.locs B.cells B.slots ∧ Post ⟨T.setVm vm₁, locs, cells, slots⟩ argsL.toArray v B ∧
      ∀ target, Steps p.tables e below (B.U.setTop { g with pc := g.pc + 3, stack := v.toList ++ rest }) target → Steps p.tables e below (T.setTop g) target := by
  obtain ⟨mk, methM, cM, hnamed, hmethM, -, -, -, -, -, -, hsigM⟩ := Cond.codeWith_spec hcode
  have hstatic : methM.isStatic = true := Cond.static_spec hnamed hmethM hstat
  obtain ⟨kP, hkP, -⟩ := className_of_methodNamed hnamed
  have hinitP : kP.init = .initialized := Cond.initialized_spec (findClass_of_methodNamed hnamed) hkP hinit
  obtain ⟨vm₁, X₁, hstep₁⟩ := X.invokestatic hexec hown hlink hnamed hmethM hstatic hkP hinitP hy (g := g) hg (argsL := argsL) (rest := rest) (hlen _ hsigM) hstack hdg
  obtain ⟨v, B, X', hpost, hsteps⟩ := hK m meth c ⟨T.setVm vm₁, locs, cells, slots⟩ { g with stack := rest } (.invokestatic index) mk argsL.toArray X₁ hg hsize hdg hW (X₁.named hnamed) (hpre vm₁ X₁.warmed)
  exact ⟨v, vm₁, B, X₁.warmed, X', hpost, fun target h => hstep₁ _ fun acts => by rw [doInvoke_state]; exact hsteps.trans h⟩
theorem vx_runSW {y : MethodName} {bytes cc : ByteArray} {maxL nL mc ms n index : Nat} {ret : Option FieldType} {hh : List (Nat × Nat × Nat × Nat)} {ws : List Cond} {rm : Room} {Pc : Array Value → State → Prop} {Qc : Array Value → State → Outcome → State → Prop} {free : Addr → Prop} {Ts : List Cond} {own : String} {As rest : List Value} {g : JFrame}
    (S : CallFix p m c cc nL s args Ts own) (hM : Met l y ws rm Pc Qc mc ms free) (cw : vx_CSW R s args own index y bytes maxL ret hh ws rm mc ms n) (hp : PreS s H Pc As)
    (hg : g.method = m) (hn : As.length = n) (hsize : g.locals.size = nL) (hstack : g.stack = As.reverse ++ rest) (hW : 2 * g.monitorRoom + (rest.map fun v => v.category).sum ≤ 8) (hdg : decode cc g.pc = .ok (.invokestatic index, 3)) (hf : cells + mc ≤ R.cells ∧ slots + ms ≤ R.slots) :
    va_Run p l e R s m args below meth c H locs cells slots mc ms g rest (Qc As.toArray) (free) := by
  obtain ⟨⟨hrc, hrs, hfr, hlo, hws, hcw⟩, hcode, hini, hy, hlen, hl, hstt⟩ := cw
  have hK : Back l R p e below s args y 3 8 (PreOf R mc ms Pc) (PostOf Qc mc ms free) := va_backW (hh := hh) (bytes := bytes) (maxL := maxL) (ret := ret) hM hp.1 hrc hrs hfr hlo hws hcw (fun a' U hW => word_at hW (Or.inl (by first | rfl | simp [Cond.onTables, Cond.keeps, Cond.steady])) hini)
  obtain ⟨hx, hb, hml, ho, -⟩ := S
  intro T hT X
  obtain ⟨v, vm₁, ⟨U', l2, c2, s2⟩, hW₁, X', ⟨g', mk, t, L, e1, e2, hq, h1, hL, h2, h3⟩, st⟩ := vx_callSW X hx (hh := hh) (bytes := bytes) (maxL := maxL) (ret := ret) ho hl hstt hini hcode hy hK hg (hsize.trans hml.symm) (argsL := As) (rest := rest) (fun sig h => hn.trans (hlen sig h)) hstack hW (by rw [hb]; exact hdg)
    (fun vm₁ hW₁ => ⟨hf.1, hf.2, hp.2 (T.setVm vm₁) hT hW₁⟩)
  dsimp only [Pt.U, Pt.locs, Pt.cells, Pt.slots] at X' e1 e2 h1 h2 h3 st
  subst h1; subst h2; subst h3
  exact ⟨v, (T.setVm vm₁).calling g' mk As.toArray, t, U', L, hT, X', hL, e1, e2, hq, st⟩
/-- a thing of a world lies in the heap -/
theorem vx_lt {D : va_G} {cl : List vw_C} {ws : va_W} {H1 : Heap} (h : va_P D cl ws H1) {k : Nat} {q : Nat × va_E} (hk : ws[k]? = some q) : q.1 < H1.size := (h k q hk).lt
end VXS
/-! ===== END ===== -/
/-! ===== BEGIN methods with a table of their own: called by a name, returning or throwing ===== -/
section VXH
/-! vx_backW, vx_callVX, vx_callSX, vx_callVW, vx_runVW, vx_runVX, vx_runSX, vx_ofWH follow the same proofs as their sisters above (Free/Laws.lean, Shelf42/LK1.lean); vx_outP calls Shelf42/NT130.lean (outThrough). -/
section
variable {l : Launch} {R : Room} {p : Program} {e : Env} {below : List Frame} {s : State} {sargs : Array Value} {y : MethodName} {len W9 : Nat}
theorem vx_backW {ws : List Cond} {rm : Room} {Pc : Array Value → State → Prop} {Qc : Array Value → State → Outcome → State → Prop} {XC : String → State → State → Prop} {mc ms : Nat} {free : Addr → Prop} {bytes : ByteArray} {maxL : Nat} {ret : Option FieldType} {hh : List (Nat × Nat × Nat × Nat)}
    (hM : vx_Met l y ws rm Pc Qc XC mc ms free) (hblind : FrameBlind Pc) (hrc : rm.cells = mc) (hrs : rm.slots = ms)
    (hframes : rm.frames + 1 ≤ R.frames) (hlocals : W9 + (maxL + 11) + rm.locals ≤ R.locals)
    (hws : ∀ w ∈ ws, ∀ a' U, s.WarmedH U.vm → w.before a' U = true) (hcode : Cond.codeWith y bytes maxL ret hh ∈ ws) (hinit : ∀ a' U, s.WarmedH U.vm → (Cond.initialized y.cls).before a' U = true) :
    vx_Back l R p e below s sargs y len W9 (PreOf R mc ms Pc) (PostOf Qc mc ms free) (vx_Post XC mc ms free) := by
  intro m meth c A g ig mk a X hg hsize hdg hW hn hp
  have h1 : (headSpec ws rm).pre.before a A.U = true := atoms_intro fun w hw => hws w hw _ _ X.warmed
  have h2 : (Cond.codeWith y bytes maxL ret hh).before a A.U = true := hws _ hcode _ _ X.warmed
  have h3 : (Cond.initialized y.cls).before a A.U = true := hinit _ _ X.warmed
  have h4 : A.cells + (headSpec ws rm).room.cells ≤ R.cells := by rw [show (headSpec ws rm).room.cells = mc from hrc]; exact hp.1
  have h5 : A.slots + (headSpec ws rm).room.slots ≤ R.slots := by rw [show (headSpec ws rm).room.slots = ms from hrs]; exact hp.2.1
  have hPc : Pc a (A.U.calling g mk a) := hblind _ _ _ _ hp.2.2
  obtain ⟨U, Ls, c0, s0⟩ := A
  dsimp only [Pt.U, Pt.locs, Pt.cells, Pt.slots] at h1 h2 h3 h4 h5 X hn hPc ⊢
  obtain ⟨m9, methY, cY, hn9, hmY, hcY, -, hlY, -⟩ := Cond.codeWith_spec h2
  cases Option.some.inj (hn9.symm.trans hn)
  obtain ⟨kY, hkY, -⟩ := className_of_methodNamed hn
  have hinitY : kY.init = .initialized := Cond.initialized_spec (findClass_of_methodNamed hn) hkY h3
  have h : At U g.method c below := by rw [hg]; exact X.here
  have hlocals9 : W9 + (maxL + 11) + (headSpec ws rm).room.locals ≤ R.locals := hlocals
  have happ : (headSpec ws rm).appliesLoose y e.platform (U.calling g mk a) = true :=
    Spec.appliesLoose_calling (g := g) h hdg hn hkY hinitY
      (X.room_calling (g := g) (R' := (headSpec ws rm).room) hsize hmY hcY hframes (by rw [hlY]; omega) h4 h5) h1
  obtain ⟨mid, hmid⟩ := h.above
  have hfr : (U.setTop g).frames = (.java g :: mid) ++ below := by rw [State.frames_setTop' g h.top, hmid]; rfl
  obtain ⟨o, s₂, hsteps, -, hend, hq⟩ := Steps.callFree hM p X.admits X.cas X.clock (acts := []) hfr happ hPc trivial
  have hq' : vx_Q Qc XC mc ms free a (U.calling g mk a) o s₂ := hq
  rw [State.frames_setTop' g h.top] at hend
  obtain ⟨g₀, hg0⟩ := Option.isSome_iff_exists.mp h.top
  obtain ⟨r, hr⟩ := State.topJava?_eq_some.mp hg0
  have hr' : (({ U with heap := s₂.heap, slotsUsed := s₂.slotsUsed } : State).setVm s₂.vm).frames = .java g₀ :: r := hr
  rcases hq' with ⟨hqc, L, hfe, hL⟩ | ⟨q, rfl, E, ce, L, hx, hce, hcv, hcl, hW₂, hsm, hL⟩
  · obtain ⟨⟨v, rfl⟩, hW₂, e2, q2, q3, q4, q5, q6⟩ := id hfe
    have e3 : s₂ = ({ (U.calling g mk a).setFrames s₂.frames with heap := s₂.heap, slotsUsed := s₂.slotsUsed } : State).setVm s₂.vm := by
      have : s₂ = ({ s₂ with vm := (U.calling g mk a).vm } : State).setVm s₂.vm := rfl
      rw [e2] at this
      exact this
    obtain ⟨c₂, i₂, len₂, hc₂, hd₂, hf₂⟩ := hend
    have hW' : U.WarmedH s₂.vm := hW₂
    have hcc : c₂ = c := by
      have h1 : s₂.code? g.method = U.code? g.method := by
        rw [State.code?_eq, State.code?_eq, hW'.alike.method?]
      exact Option.some.inj (hc₂.symm.trans (h1.trans h.code))
    subst hcc
    have hlen : len₂ = len := by rw [hdg] at hd₂; cases hd₂; rfl
    subst hlen
    have hs₂ : s₂ = (({ U with heap := s₂.heap, slotsUsed := s₂.slotsUsed } : State).setVm s₂.vm).setTop { g with pc := g.pc + len₂, stack := v.toList ++ g.stack } := by
      refine e3.trans ?_
      rw [hf₂, State.calling_eq h.top, State.setFrames_setFrames, State.setTop_of_frames _ hr', hr]
      rfl
    have hsame : U.sameButNew ({ U with heap := s₂.heap, slotsUsed := s₂.slotsUsed } : State) L mc ms := by
      refine ⟨?_, q2, q3, q4, q5, q6⟩
      obtain ⟨t, ht, -⟩ := State.frames_cons hr
      show ({ U with heap := s₂.heap, slotsUsed := s₂.slotsUsed } : State) = { U.setFrames U.frames with heap := s₂.heap, slotsUsed := s₂.slotsUsed }
      rw [State.setFrames_self ht]
    subst hg
    refine Or.inl ⟨v, ⟨(({ U with heap := s₂.heap, slotsUsed := s₂.slotsUsed } : State).setVm s₂.vm), Ls ++ L, c0 + mc, s0 + ms⟩,
      ⟨X.admits, X.cas, X.clock, X.frames, X.room, X.hears, X.method, X.code, (X.here.setHeapUsed s₂.heap s₂.slotsUsed).setVm hW'.alike, X.tail, State.WarmedH.trans X.warmed hW', X.limits, X.bytes, X.same.trans (hsame.setVm s.vm)⟩,
      ⟨g, mk, s₂, L, rfl, rfl, hqc, rfl, hL, rfl, rfl⟩, ?_⟩
    show Steps p.tables e below _ ((({ U with heap := s₂.heap, slotsUsed := s₂.slotsUsed } : State).setVm s₂.vm).setTop { g with pc := g.pc + len₂, stack := v.toList ++ g.stack })
    rw [← hs₂]
    exact hsteps
  · obtain ⟨e2, q2, q3, q4, q5, q6⟩ := id hsm
    have e3 : s₂ = ({ (U.calling g mk a).setFrames s₂.frames with heap := s₂.heap, slotsUsed := s₂.slotsUsed } : State).setVm s₂.vm := by
      have : s₂ = ({ s₂ with vm := (U.calling g mk a).vm } : State).setVm s₂.vm := rfl
      rw [e2] at this
      exact this
    have hf₂ : s₂.frames = .throwing q :: .java g :: U.frames.tail := hend
    have hW' : U.WarmedH s₂.vm := hW₂
    have hs₂ : s₂ = ((({ U with heap := s₂.heap, slotsUsed := s₂.slotsUsed } : State).setVm s₂.vm).setTop g).pushFrame (.throwing q) := by
      refine e3.trans ?_
      rw [hf₂, State.calling_eq h.top, State.setFrames_setFrames, State.pushFrame, State.frames_setTop _ hr', State.setTop_of_frames _ hr', State.setFrames_setFrames, hr]
      rfl
    have hsame : U.sameButNew ({ U with heap := s₂.heap, slotsUsed := s₂.slotsUsed } : State) L mc ms := by
      refine ⟨?_, q2, q3, q4, q5, q6⟩
      obtain ⟨t, ht, -⟩ := State.frames_cons hr
      show ({ U with heap := s₂.heap, slotsUsed := s₂.slotsUsed } : State) = { U.setFrames U.frames with heap := s₂.heap, slotsUsed := s₂.slotsUsed }
      rw [State.setFrames_self ht]
    subst hg
    refine Or.inr ⟨q, ⟨(({ U with heap := s₂.heap, slotsUsed := s₂.slotsUsed } : State).setVm s₂.vm), Ls ++ L, c0 + mc, s0 + ms⟩,
      ⟨X.admits, X.cas, X.clock, X.frames, X.room, X.hears, X.method, X.code, (X.here.setHeapUsed s₂.heap s₂.slotsUsed).setVm hW'.alike, X.tail, State.WarmedH.trans X.warmed hW', X.limits, X.bytes, X.same.trans (hsame.setVm s.vm)⟩,
      ⟨g, mk, s₂, L, E, ce, rfl, rfl, hx, hce, hcv, hcl, rfl, hL, rfl, rfl⟩, ?_⟩
    show Steps p.tables e below _ (((({ U with heap := s₂.heap, slotsUsed := s₂.slotsUsed } : State).setVm s₂.vm).setTop g).pushFrame (.throwing q))
    rw [← hs₂]
    exact hsteps
end
variable {p : Program} {l : Launch} {e : Env} {R : Room} {s : State} {m : MethodId} {args : Array Value} {below : List Frame} {meth : Method} {c : Code} {T : State} {H : Heap} {locs : List Loc} {cells slots : Nat}
theorem vx_callVX (X : Stand p l e R s m args below meth c T locs cells slots) (hexec : p.tables.exec = Jvm.exec) {own C : String} {index : Nat} {y : MethodName} {bytes : ByteArray} {maxL : Nat} {ret : Option FieldType} {hh : List (Nat × Nat × Nat × Nat)}
    (hown : s.vm.findClass own = some m.cls) (hlink : (Cond.methodLink own index y).before args s = true) (hinst : (Cond.instanceMethod y).before args s = true) (hsel : (Cond.selects C y y).before args s = true)
    (hcode : (Cond.codeWith y bytes maxL ret hh).before args s = true) (hy : y.cls ≠ "java/lang/invoke/MethodHandle" ∧ y.cls ≠ "java/lang/invoke/VarHandle")
    {W9 : Nat} {Pre : Pt → Array Value → Prop} {Post : Pt → Array Value → Option Value → Pt → Prop} {PostX : Pt → Array Value → Addr → Pt → Prop} (hK : vx_Back l R p e below s args y 3 W9 Pre Post PostX)
    {b : Addr} {cellB : Cell} (hcell : T.heap[b]? = some cellB) (hobj : cellB.vm.isStatics = false) (hcls : s.vm.findClass C = some cellB.cls)
    {g : JFrame} (hg : g.method = m) (hsize : g.locals.size = c.maxLocals) {argsL rest : List Value} (hlen : ∀ sig, parseMethodDescriptor y.desc = some sig → argsL.length = sig.parameters.length)
    (hstack : g.stack = argsL.reverse ++ .ref b :: rest) (hW : 2 * g.monitorRoom + (rest.map fun v => v.category).sum ≤ W9) (hdg : decode c.code g.pc = .ok (.invokevirtual index, 3))
    (hpre : ∀ vm₁, s.WarmedH vm₁ → Pre ⟨T.setVm vm₁, locs, cells, slots⟩ (Value.ref b :: argsL).toArray) :
    (∃ (v : Option Value) (vm₁ : Vm) (B : Pt), s.WarmedH vm₁ ∧ Stand p l e R s m args below meth c B.U B.locs B.cells B.slots ∧ Post ⟨T.setVm vm₁, locs, cells, slots⟩ (Value.ref b :: argsL).toArray v B ∧
      ∀ target, Steps p.tables e below (B.U.setTop { g with pc := g.pc + 3, stack := v.toList ++ rest }) target → Steps p.tables e below (T.setTop g) target) ∨
    (∃ (q : Addr) (vm₁ : Vm) (B : Pt), s.WarmedH vm₁ ∧ Stand p l e R s m args below meth c B.U B.locs B.cells B.slots ∧ PostX ⟨T.setVm vm₁, locs, cells, slots⟩ (Value.ref b :: argsL).toArray q B ∧
      Steps p.tables e below (T.setTop g) ((B.U.setTop { g with stack := rest }).pushFrame (.throwing q))) := by
  obtain ⟨mk, methM, hnamed, hmethM, hstM, habM⟩ := Cond.instanceMethod_spec hinst
  obtain ⟨m8, methM', cM, hn8, hmethM', -, -, -, -, -, -, hsigM⟩ := Cond.codeWith_spec hcode
  cases Option.some.inj (hn8.symm.trans hnamed)
  cases hmethM.symm.trans hmethM'
  obtain ⟨c2, r2, m2, q1, q2, q3, q4, kP, hkP, hkPi⟩ := Cond.selects_spec hsel
  cases hcls.symm.trans q1
  cases (State.methodFound?_of_named hnamed hy).symm.trans q2
  cases hnamed.symm.trans q3
  have hselP : selectMethod e.platform s.vm cellB.cls mk = .method mk := by rw [Launch.admits_selectMethod X.admits]; exact q4
  obtain ⟨vm₁, X₁, hstep₁⟩ := X.invokevirtual hexec hown hlink hnamed hmethM hstM hkP hkPi hy (a := b) (cell := cellB) hcell
    (fun z h => by rw [h] at hobj; cases hobj) hselP hmethM habM hkP hkPi (g := g) hg (argsL := argsL) (rest := rest) (hlen _ hsigM) hstack hdg
  rcases hK m meth c ⟨T.setVm vm₁, locs, cells, slots⟩ { g with stack := rest } (.invokevirtual index) mk (Value.ref b :: argsL).toArray X₁ hg hsize hdg hW (X₁.named hnamed) (hpre vm₁ X₁.warmed) with ⟨v, B, X', hpost, hsteps⟩ | ⟨q, B, X', hpost, hsteps⟩
  · exact Or.inl ⟨v, vm₁, B, X₁.warmed, X', hpost, fun target h => hstep₁ _ fun acts => by rw [doInvoke_state]; exact hsteps.trans h⟩
  · exact Or.inr ⟨q, vm₁, B, X₁.warmed, X', hpost, hstep₁ _ fun acts => by rw [doInvoke_state]; exact hsteps⟩
theorem vx_callSX (X : Stand p l e R s m args below meth c T locs cells slots) (hexec : p.tables.exec = Jvm.exec) {own : String} {index : Nat} {y : MethodName} {bytes : ByteArray} {maxL : Nat} {ret : Option FieldType} {hh : List (Nat × Nat × Nat × Nat)}
    (hown : s.vm.findClass own = some m.cls) (hlink : (Cond.methodLink own index y).before args s = true) (hstat : (Cond.static y).before args s = true) (hinit : (Cond.initialized y.cls).before args s = true)
    (hcode : (Cond.codeWith y bytes maxL ret hh).before args s = true) (hy : y.cls ≠ "java/lang/invoke/MethodHandle" ∧ y.cls ≠ "java/lang/invoke/VarHandle")
    {W9 : Nat} {Pre : Pt → Array Value → Prop} {Post : Pt → Array Value → Option Value → Pt → Prop} {PostX : Pt → Array Value → Addr → Pt → Prop} (hK : vx_Back l R p e below s args y 3 W9 Pre Post PostX)
    {g : JFrame} (hg : g.method = m) (hsize : g.locals.size = c.maxLocals) {argsL rest : List Value} (hlen : ∀ sig, parseMethodDescriptor y.desc = some sig → argsL.length = sig.parameters.length)
    (hstack : g.stack = argsL.reverse ++ rest) (hW : 2 * g.monitorRoom + (rest.map fun v => v.category).sum ≤ W9) (hdg : decode c.code g.pc = .ok (.invokestatic index, 3))
    (hpre : ∀ vm₁, s.WarmedH vm₁ → Pre ⟨T.setVm vm₁, locs, cells, slots⟩ argsL.toArray) :
    (∃ (v : Option Value) (vm₁ : Vm) (B : Pt), s.WarmedH vm₁ ∧ Stand p l e R s m args below meth c B.U B.locs B.cells B.slots ∧ Post ⟨T.setVm vm₁, locs, cells, slots⟩ argsL.toArray v B ∧
      ∀ target, Steps p.tables e below (B.U.setTop { g with pc := g.pc + 3, stack := v.toList ++ rest }) target → Steps p.tables e below (T.setTop g) target) ∨
    (∃ (q : Addr) (vm₁ : Vm) (B : Pt), s.WarmedH vm₁ ∧ Stand p l e R s m args below meth c B.U B.locs B.cells B.slots ∧ PostX ⟨T.setVm vm₁, locs, cells, slots⟩ argsL.toArray q B ∧
      Steps p.tables e below (T.setTop g) ((B.U.setTop { g with stack := rest }).pushFrame (.throwing q))) := by
  obtain ⟨mk, methM, cM, hnamed, hmethM, -, -, -, -, -, -, hsigM⟩ := Cond.codeWith_spec hcode
  have hstatic : methM.isStatic = true := Cond.static_spec hnamed hmethM hstat
  obtain ⟨kP, hkP, -⟩ := className_of_methodNamed hnamed
  have hinitP : kP.init = .initialized := Cond.initialized_spec (findClass_of_methodNamed hnamed) hkP hinit
  obtain ⟨vm₁, X₁, hstep₁⟩ := X.invokestatic hexec hown hlink hnamed hmethM hstatic hkP hinitP hy (g := g) hg (argsL := argsL) (rest := rest) (hlen _ hsigM) hstack hdg
  rcases hK m meth c ⟨T.setVm vm₁, locs, cells, slots⟩ { g with stack := rest } (.invokestatic index) mk argsL.toArray X₁ hg hsize hdg hW (X₁.named hnamed) (hpre vm₁ X₁.warmed) with ⟨v, B, X', hpost, hsteps⟩ | ⟨q, B, X', hpost, hsteps⟩
  · exact Or.inl ⟨v, vm₁, B, X₁.warmed, X', hpost, fun target h => hstep₁ _ fun acts => by rw [doInvoke_state]; exact hsteps.trans h⟩
  · exact Or.inr ⟨q, vm₁, B, X₁.warmed, X', hpost, hstep₁ _ fun acts => by rw [doInvoke_state]; exact hsteps⟩
theorem vx_callVW (X : Stand p l e R s m args below meth c T locs cells slots) (hexec : p.tables.exec = Jvm.exec) {own C : String} {index : Nat} {y : MethodName} {bytes : ByteArray} {maxL : Nat} {ret : Option FieldType} {hh : List (Nat × Nat × Nat × Nat)}
    (hown : s.vm.findClass own = some m.cls) (hlink : (Cond.methodLink own index y).before args s = true) (hinst : (Cond.instanceMethod y).before args s = true) (hsel : (Cond.selects C y y).before args s = true)
    (hcode : (Cond.codeWith y bytes maxL ret hh).before args s = true) (hy : y.cls ≠ "java/lang/invoke/MethodHandle" ∧ y.cls ≠ "java/lang/invoke/VarHandle")
    {W9 : Nat} {Pre : Pt → Array Value → Prop} {Post : Pt → Array Value → Option Value → Pt → Prop} (hK : Back l R p e below s args y 3 W9 Pre Post)
    {b : Addr} {cellB : Cell} (hcell : T.heap[b]? = some cellB) (hobj : cellB.vm.isStatics = false) (hcls : s.vm.findClass C = some cellB.cls)
    {g : JFrame} (hg : g.method = m) (hsize : g.locals.size = c.maxLocals) {argsL rest : List Value} (hlen : ∀ sig, parseMethodDescriptor y.desc = some sig → argsL.length = sig.parameters.length)
    (hstack : g.stack = argsL.reverse ++ .ref b :: rest) (hW : 2 * g.monitorRoom + (rest.map fun v => v.category).sum ≤ W9) (hdg : decode c.code g.pc = .ok (.invokevirtual index, 3))
    (hpre : ∀ vm₁, s.WarmedH vm₁ → Pre ⟨T.setVm vm₁, locs, cells, slots⟩ (Value.ref b :: argsL).toArray) :
    ∃ (v : Option Value) (vm₁ : Vm) (B : Pt), s.WarmedH vm₁ ∧ Stand p l e R s m args below meth c B.U B.locs B.cells B.slots ∧ Post ⟨T.setVm vm₁, locs, cells, slots⟩ (Value.ref b :: argsL).toArray v B ∧
      ∀ target, Steps p.tables e below (B.U.setTop { g with pc := g.pc + 3, stack := v.toList ++ rest }) target → Steps p.tables e below (T.setTop g) target := by
  obtain ⟨mk, methM, hnamed, hmethM, hstM, habM⟩ := Cond.instanceMethod_spec hinst
  obtain ⟨m8, methM', cM, hn8, hmethM', -, -, -, -, -, -, hsigM⟩ := Cond.codeWith_spec hcode
  cases Option.some.inj (hn8.symm.trans hnamed)
  cases hmethM.symm.trans hmethM'
  obtain ⟨c2, r2, m2, q1, q2, q3, q4, kP, hkP, hkPi⟩ := Cond.selects_spec hsel
  cases hcls.symm.trans q1
  cases (State.methodFound?_of_named hnamed hy).symm.trans q2
  cases hnamed.symm.trans q3
  have hselP : selectMethod e.platform s.vm cellB.cls mk = .method mk := by rw [Launch.admits_selectMethod X.admits]; exact q4
  obtain ⟨vm₁, X₁, hstep₁⟩ := X.invokevirtual hexec hown hlink hnamed hmethM hstM hkP hkPi hy (a := b) (cell := cellB) hcell
    (fun z h => by rw [h] at hobj; cases hobj) hselP hmethM habM hkP hkPi (g := g) hg (argsL := argsL) (rest := rest) (hlen _ hsigM) hstack hdg
  obtain ⟨v, B, X', hpost, hsteps⟩ := hK m meth c ⟨T.setVm vm₁, locs, cells, slots⟩ { g with stack := rest } (.invokevirtual index) mk (Value.ref b :: argsL).toArray X₁ hg hsize hdg hW (X₁.named hnamed) (hpre vm₁ X₁.warmed)
  exact ⟨v, vm₁, B, X₁.warmed, X', hpost, fun target h => hstep₁ _ fun acts => by rw [doInvoke_state]; exact hsteps.trans h⟩
abbrev vx_CVW (R : Room) (s : State) (args : Array Value) (own C : String) (index : Nat) (y : MethodName) (bytes : ByteArray) (maxL : Nat) (ret : Option FieldType) (hh : List (Nat × Nat × Nat × Nat)) (ws : List Cond) (rm : Room) (mc ms n : Nat) : Prop :=
  (rm.cells = mc ∧ rm.slots = ms ∧ rm.frames + 1 ≤ R.frames ∧ 8 + (maxL + 11) + rm.locals ≤ R.locals ∧ (∀ w ∈ ws, ∀ (a' : Array Value) (U : State), s.WarmedH U.vm → w.before a' U = true) ∧ Cond.codeWith y bytes maxL ret hh ∈ ws) ∧
  (Cond.codeWith y bytes maxL ret hh).before args s = true ∧ (Cond.initialized y.cls).before args s = true ∧ (y.cls ≠ "java/lang/invoke/MethodHandle" ∧ y.cls ≠ "java/lang/invoke/VarHandle") ∧
  (∀ sig, parseMethodDescriptor y.desc = some sig → n = sig.parameters.length) ∧ (Cond.methodLink own index y).before args s = true ∧ (Cond.instanceMethod y).before args s = true ∧ (Cond.selects C y y).before args s = true
theorem vx_cwVW {own C : String} {index maxL mc ms : Nat} {y : MethodName} {bytes : ByteArray} {ret : Option FieldType} {hh : List (Nat × Nat × Nat × Nat)} {Ts ws ws' : List Cond} {rm : Room} (n : Nat) (ht : ∀ w ∈ Ts, w.before args s = true) (hT : GoodIn Ts (wsV own index C y ws)) (hw : ws = Cond.codeWith y bytes maxL ret hh :: ws') (hrc : rm.cells = mc) (hrs : rm.slots = ms)
    (hd : y.cls = C ∧ y.cls ≠ "java/lang/invoke/MethodHandle" ∧ y.cls ≠ "java/lang/invoke/VarHandle" ∧ (parseMethodDescriptor y.desc).map (fun d => d.parameters.length) = some n) (hR : rm.frames + 1 ≤ R.frames ∧ 8 + (maxL + 11) + rm.locals ≤ R.locals) :
    vx_CVW R s args own C index y bytes maxL ret hh ws rm mc ms n := by
  obtain ⟨hC, hd⟩ := hd
  subst hC
  have ok : ∀ w ∈ wsV own index y.cls y ws, w.before args s = true := fun w h => ht w (hT w h).1
  have hG : GoodIn Ts ws := fun w h => hT w (by unfold wsV; exact List.mem_append_right _ h)
  have hc : Cond.codeWith y bytes maxL ret hh ∈ ws := by rw [hw]; exact List.mem_cons_self
  refine ⟨⟨hrc, hrs, hR.1, hR.2, pay_in ht hG, hc⟩, ht _ (hG _ hc).1, ok _ (by simp [wsV]), ⟨hd.1, hd.2.1⟩, fun sig h => ?_, ok _ (by simp [wsV]), ok _ (by simp [wsV]), ok _ (by simp [wsV])⟩
  have h2 := hd.2.2
  rw [h] at h2
  exact (Option.some.inj h2).symm
theorem vx_runVW {y : MethodName} {bytes cc : ByteArray} {maxL nL mc ms n index : Nat} {ret : Option FieldType} {hh : List (Nat × Nat × Nat × Nat)} {ws : List Cond} {rm : Room} {Pc : Array Value → State → Prop} {Qc : Array Value → State → Outcome → State → Prop} {free : Addr → Prop} {Ts : List Cond} {own C : String} {b : Addr} {As rest : List Value} {g : JFrame}
    (S : CallFix p m c cc nL s args Ts own) (hM : Met l y ws rm Pc Qc mc ms free) (cw : vx_CVW R s args own C index y bytes maxL ret hh ws rm mc ms n) (hp : PreV s H C b Pc As)
    (hg : g.method = m) (hn : As.length = n) (hsize : g.locals.size = nL) (hstack : g.stack = As.reverse ++ .ref b :: rest) (hW : 2 * g.monitorRoom + (rest.map fun v => v.category).sum ≤ 8) (hdg : decode cc g.pc = .ok (.invokevirtual index, 3)) (hf : cells + mc ≤ R.cells ∧ slots + ms ≤ R.slots) :
    va_Run p l e R s m args below meth c H locs cells slots mc ms g rest (Qc (Value.ref b :: As).toArray) free := by
  obtain ⟨⟨hrc, hrs, hfr, hlo, hws, hcw⟩, hcode, hini, hy, hlen, hl, hin, hse⟩ := cw
  have hK : Back l R p e below s args y 3 8 (PreOf R mc ms Pc) (PostOf Qc mc ms free) := va_backW (hh := hh) (bytes := bytes) (maxL := maxL) (ret := ret) hM hp.1 hrc hrs hfr hlo hws hcw (fun a' U hW => word_at hW (Or.inl (by first | rfl | simp [Cond.onTables, Cond.keeps, Cond.steady])) hini)
  obtain ⟨hx, hb, hml, ho, -⟩ := S
  obtain ⟨-, ⟨cellB, hcB, hoB, hclB⟩, hPc⟩ := hp
  intro T hT X
  obtain ⟨v, vm₁, ⟨U', l2, c2, s2⟩, hW₁, X', ⟨g', mk, t, L, e1, e2, hq, h1, hL, h2, h3⟩, st⟩ := vx_callVW X hx (C := C) (hh := hh) (bytes := bytes) (maxL := maxL) (ret := ret) ho hl hin hse hcode hy hK (by rw [hT]; exact hcB) hoB hclB hg (hsize.trans hml.symm) (argsL := As) (rest := rest) (fun sig h => hn.trans (hlen sig h)) hstack hW (by rw [hb]; exact hdg)
    (fun vm₁ hW₁ => ⟨hf.1, hf.2, hPc (T.setVm vm₁) hT hW₁⟩)
  dsimp only [Pt.U, Pt.locs, Pt.cells, Pt.slots] at X' e1 e2 h1 h2 h3 st
  subst h1; subst h2; subst h3
  exact ⟨v, (T.setVm vm₁).calling g' mk (Value.ref b :: As).toArray, t, U', L, hT, X', hL, e1, e2, hq, st⟩
section
variable {y : MethodName} {bytes cc : ByteArray} {maxL nL mc ms n index : Nat} {ret : Option FieldType} {ws : List Cond} {rm : Room} {Pc : Array Value → State → Prop} {Qc : Array Value → State → Outcome → State → Prop} {XC : String → State → State → Prop} {free : Addr → Prop} {Ts : List Cond} {own C : String} {b : Addr} {As rest : List Value} {g : JFrame}
theorem vx_runVX {hh : List (Nat × Nat × Nat × Nat)} (S : CallFix p m c cc nL s args Ts own) (hM : vx_Met l y ws rm Pc Qc XC mc ms free) (cw : vx_CVW R s args own C index y bytes maxL ret hh ws rm mc ms n) (hp : PreV s H C b Pc As)
    (hg : g.method = m) (hn : As.length = n) (hsize : g.locals.size = nL) (hstack : g.stack = As.reverse ++ .ref b :: rest) (hW : 2 * g.monitorRoom + (rest.map fun v => v.category).sum ≤ 8) (hdg : decode cc g.pc = .ok (.invokevirtual index, 3)) (hf : cells + mc ≤ R.cells ∧ slots + ms ≤ R.slots) :
    vx_Run p l e R s m args below meth c H locs cells slots mc ms g rest (Qc (Value.ref b :: As).toArray) XC free := by
  obtain ⟨⟨hrc, hrs, hfr, hlo, hws, hcw⟩, hcode, hini, hy, hlen, hl, hin, hse⟩ := cw
  have hK : vx_Back l R p e below s args y 3 8 (PreOf R mc ms Pc) (PostOf Qc mc ms free) (vx_Post XC mc ms free) := vx_backW (hh := hh) (bytes := bytes) (maxL := maxL) (ret := ret) hM hp.1 hrc hrs hfr hlo hws hcw (fun a' U hW => word_at hW (Or.inl (by first | rfl | simp [Cond.onTables, Cond.keeps, Cond.steady])) hini)
  obtain ⟨hx, hb, hml, ho, -⟩ := S
  obtain ⟨-, ⟨cellB, hcB, hoB, hclB⟩, hPc⟩ := hp
  intro T hT X
  rcases vx_callVX X hx (C := C) (hh := hh) (bytes := bytes) (maxL := maxL) (ret := ret) ho hl hin hse hcode hy hK (by rw [hT]; exact hcB) hoB hclB hg (hsize.trans hml.symm) (argsL := As) (rest := rest) (fun sig h => hn.trans (hlen sig h)) hstack hW (by rw [hb]; exact hdg)
    (fun vm₁ hW₁ => ⟨hf.1, hf.2, hPc (T.setVm vm₁) hT hW₁⟩) with ⟨v, vm₁, ⟨U', l2, c2, s2⟩, hW₁, X', ⟨g', mk, t, L, e1, e2, hq, h1, hL, h2, h3⟩, st⟩ | ⟨q, vm₁, ⟨U', l2, c2, s2⟩, hW₁, X', ⟨g', mk, t, L, E, ce, e1, e2, hq, hce, hcv, hcl, h1, hL, h2, h3⟩, st⟩
  · dsimp only [Pt.U, Pt.locs, Pt.cells, Pt.slots] at X' e1 e2 h1 h2 h3 st
    subst h1; subst h2; subst h3
    exact Or.inl ⟨v, (T.setVm vm₁).calling g' mk (Value.ref b :: As).toArray, t, U', L, hT, X', hL, e1, e2, hq, st⟩
  · dsimp only [Pt.U, Pt.locs, Pt.cells, Pt.slots] at X' e1 e2 h1 h2 h3 st hcl
    subst h1; subst h2; subst h3
    exact Or.inr ⟨q, (T.setVm vm₁).calling g' mk (Value.ref b :: As).toArray, t, U', L, E, ce, hT, X', hL, e1, e2, hq, hce, hcv, vx_cls hW₁ hcl, st⟩
theorem vx_runSX {hh : List (Nat × Nat × Nat × Nat)} (S : CallFix p m c cc nL s args Ts own) (hM : vx_Met l y ws rm Pc Qc XC mc ms free) (cw : vx_CSW R s args own index y bytes maxL ret hh ws rm mc ms n) (hp : PreS s H Pc As)
    (hg : g.method = m) (hn : As.length = n) (hsize : g.locals.size = nL) (hstack : g.stack = As.reverse ++ rest) (hW : 2 * g.monitorRoom + (rest.map fun v => v.category).sum ≤ 8) (hdg : decode cc g.pc = .ok (.invokestatic index, 3)) (hf : cells + mc ≤ R.cells ∧ slots + ms ≤ R.slots) :
    vx_Run p l e R s m args below meth c H locs cells slots mc ms g rest (Qc As.toArray) XC free := by
  obtain ⟨⟨hrc, hrs, hfr, hlo, hws, hcw⟩, hcode, hini, hy, hlen, hl, hstt⟩ := cw
  have hK : vx_Back l R p e below s args y 3 8 (PreOf R mc ms Pc) (PostOf Qc mc ms free) (vx_Post XC mc ms free) := vx_backW (hh := hh) (bytes := bytes) (maxL := maxL) (ret := ret) hM hp.1 hrc hrs hfr hlo hws hcw (fun a' U hW => word_at hW (Or.inl (by first | rfl | simp [Cond.onTables, Cond.keeps, Cond.steady])) hini)
  obtain ⟨hx, hb, hml, ho, -⟩ := S
  intro T hT X
  rcases vx_callSX X hx (hh := hh) (bytes := bytes) (maxL := maxL) (ret := ret) ho hl hstt hini hcode hy hK hg (hsize.trans hml.symm) (argsL := As) (rest := rest) (fun sig h => hn.trans (hlen sig h)) hstack hW (by rw [hb]; exact hdg)
    (fun vm₁ hW₁ => ⟨hf.1, hf.2, hp.2 (T.setVm vm₁) hT hW₁⟩) with ⟨v, vm₁, ⟨U', l2, c2, s2⟩, hW₁, X', ⟨g', mk, t, L, e1, e2, hq, h1, hL, h2, h3⟩, st⟩ | ⟨q, vm₁, ⟨U', l2, c2, s2⟩, hW₁, X', ⟨g', mk, t, L, E, ce, e1, e2, hq, hce, hcv, hcl, h1, hL, h2, h3⟩, st⟩
  · dsimp only [Pt.U, Pt.locs, Pt.cells, Pt.slots] at X' e1 e2 h1 h2 h3 st
    subst h1; subst h2; subst h3
    exact Or.inl ⟨v, (T.setVm vm₁).calling g' mk As.toArray, t, U', L, hT, X', hL, e1, e2, hq, st⟩
  · dsimp only [Pt.U, Pt.locs, Pt.cells, Pt.slots] at X' e1 e2 h1 h2 h3 st hcl
    subst h1; subst h2; subst h3
    exact Or.inr ⟨q, (T.setVm vm₁).calling g' mk As.toArray, t, U', L, E, ce, hT, X', hL, e1, e2, hq, hce, hcv, vx_cls hW₁ hcl, st⟩
end
end VXH
theorem vx_ofWH {l : Launch} {y : MethodName} {ws ws' : List Cond} {rm : Room} {Pc : Array Value → State → Prop} {Qc : Array Value → State → Outcome → State → Prop} {XC : String → State → State → Prop} {mc ms : Nat} {free : Addr → Prop} {cc : ByteArray} {maxL : Nat} {ret : Option FieldType} {hh : List (Nat × Nat × Nat × Nat)}
    (hy : plainName y.cls = true) (hw : ws = Cond.codeWith y cc maxL ret hh :: ws')
    (body : ∀ p e s m args below meth c s₁, BodyLoose p l y (headSpec ws rm) cc maxL ret e s m args below meth c s₁ → c.maxLocals = maxL → Pc args s →
      W p l e (headSpec ws rm).room s m args below meth c s.heap [] 0 0 (vx_MQ below Qc XC args s mc ms free) (entryFrame m args maxL)) : vx_Met l y ws rm Pc Qc XC mc ms free := by
  refine MetFree.of_bodyS (code := cc) (maxLocals := maxL) (ret := ret) hy ?_ ?_
  · intro args s m h hn
    obtain ⟨m9, meth, c, hn9, h1, h2, h3, h4, -, h5, h6, -⟩ := Cond.codeWith_spec (atoms_spec (ws := ws) h _ (by rw [hw]; exact List.mem_cons_self))
    cases hn.symm.trans hn9
    exact ⟨meth, c, h1, h2, h3, h4, h5, h6⟩
  · intro p e s m args below meth c s₁ B hml hP _
    have hh0 : s₁.heap = s.heap := by rw [B.state]; rfl
    obtain ⟨t, a1, o, b1, b2, b3⟩ := body p e s m args below meth c s₁ B hml hP s₁ hh0 (Stand.of_body B)
    exact ⟨t, o, a1, b1, b2, b3⟩
/-! ===== END ===== -/
end
section
/-! ===== BEGIN printed: names, fields, word lists, decode rows ===== -/
def RX0 : String := "WholeRegisters"
def TX0 : u_T := fun k => match k with
  | 0 => ("WholeRegisters", "words", "[[I", true)
  | 1 => ("WholeRegisters", "counts", "[I", true)
  | 2 => ("WholeRegisters", "signs", "[I", true)
  | 3 => ("WholeRegisters", "result", "[I", true)
  | 4 => ("WholeRegisters", "left", "[I", true)
  | _ => ("WholeRegisters", "divisor", "[I", true)
def tyX0 : Nat → FieldType := fun k => match k with
  | 0 => .array (.array .int)
  | 1 => .array .int
  | 2 => .array .int
  | 3 => .array .int
  | 4 => .array .int
  | _ => .array .int
abbrev wsX00 : List Cond := u_ws RX0 TX0 6
theorem nmX0 : ∀ a, a < 6 → ∀ b, b < 6 → a ≠ b → (TX0 a).2.1 ≠ (TX0 b).2.1 := by decide +kernel
theorem tyX0_ok : ∀ k, k < 6 → parseFieldDescriptor (TX0 k).2.2.1 = some (tyX0 k) := by decide +kernel
abbrev cX0_init : ByteArray := prog_1_method_1_code
def yX0_init : MethodName := ⟨RX0, "<init>", "()V"⟩
abbrev cX0_set : ByteArray := prog_1_method_2_code
def yX0_set : MethodName := ⟨RX0, "set", "(IJ)V"⟩
abbrev cX0_append : ByteArray := prog_1_method_3_code
def yX0_append : MethodName := ⟨RX0, "append", "(II)V"⟩
abbrev cX0_negate : ByteArray := prog_1_method_4_code
def yX0_negate : MethodName := ⟨RX0, "negate", "(I)V"⟩
abbrev cX0_copy : ByteArray := prog_1_method_5_code
def yX0_copy : MethodName := ⟨RX0, "copy", "(II)V"⟩
abbrev cX0_add : ByteArray := prog_1_method_6_code
def yX0_add : MethodName := ⟨RX0, "add", "(III)V"⟩
abbrev cX0_subtract : ByteArray := prog_1_method_7_code
def yX0_subtract : MethodName := ⟨RX0, "subtract", "(III)V"⟩
abbrev cX0_multiply : ByteArray := prog_1_method_8_code
def yX0_multiply : MethodName := ⟨RX0, "multiply", "(III)V"⟩
abbrev cX0_divide : ByteArray := prog_1_method_9_code
def yX0_divide : MethodName := ⟨RX0, "divide", "(IIII)V"⟩
abbrev cX0_root : ByteArray := prog_1_method_10_code
def yX0_root : MethodName := ⟨RX0, "root", "(II)V"⟩
abbrev cX0_compare : ByteArray := prog_1_method_11_code
def yX0_compare : MethodName := ⟨RX0, "compare", "(II)I"⟩
abbrev cX0_compareSizes : ByteArray := prog_1_method_12_code
def yX0_compareSizes : MethodName := ⟨RX0, "compareSizes", "(II)I"⟩
abbrev cX0_sign : ByteArray := prog_1_method_13_code
def yX0_sign : MethodName := ⟨RX0, "sign", "(I)I"⟩
abbrev cX0_bits : ByteArray := prog_1_method_14_code
def yX0_bits : MethodName := ⟨RX0, "bits", "(I)I"⟩
abbrev cX0_word : ByteArray := prog_1_method_15_code
def yX0_word : MethodName := ⟨RX0, "word", "(II)I"⟩
abbrev cX0_residue : ByteArray := prog_1_method_16_code
def yX0_residue : MethodName := ⟨RX0, "residue", "(II)I"⟩
abbrev cX0_checkRegister : ByteArray := prog_1_method_17_code
def yX0_checkRegister : MethodName := ⟨RX0, "checkRegister", "(I)V"⟩
abbrev cX0_checkResultFits : ByteArray := prog_1_method_18_code
def yX0_checkResultFits : MethodName := ⟨RX0, "checkResultFits", "()V"⟩
abbrev cX0_keepResult : ByteArray := prog_1_method_19_code
def yX0_keepResult : MethodName := ⟨RX0, "keepResult", "(II)V"⟩
abbrev cX0_pairOf : ByteArray := prog_1_method_20_code
def yX0_pairOf : MethodName := ⟨RX0, "pairOf", "(JI)J"⟩
abbrev cX0_bitsOf : ByteArray := prog_1_method_21_code
def yX0_bitsOf : MethodName := ⟨RX0, "bitsOf", "(I)I"⟩
abbrev cX0_bitsOfWord : ByteArray := prog_1_method_22_code
def yX0_bitsOfWord : MethodName := ⟨RX0, "bitsOfWord", "(I)I"⟩
abbrev cX0_orderOfSizes : ByteArray := prog_1_method_23_code
def yX0_orderOfSizes : MethodName := ⟨RX0, "orderOfSizes", "(II)I"⟩
abbrev cX0_putSum : ByteArray := prog_1_method_24_code
def yX0_putSum : MethodName := ⟨RX0, "putSum", "(IIII)V"⟩
abbrev cX0_addSizes : ByteArray := prog_1_method_25_code
def yX0_addSizes : MethodName := ⟨RX0, "addSizes", "(II)V"⟩
abbrev cX0_subtractSizes : ByteArray := prog_1_method_26_code
def yX0_subtractSizes : MethodName := ⟨RX0, "subtractSizes", "(II)V"⟩
abbrev cX0_multiplySizes : ByteArray := prog_1_method_27_code
def yX0_multiplySizes : MethodName := ⟨RX0, "multiplySizes", "(II)V"⟩
abbrev cX0_addMultiple : ByteArray := prog_1_method_28_code
def yX0_addMultiple : MethodName := ⟨RX0, "addMultiple", "(IIJ)V"⟩
abbrev cX0_divideSizes : ByteArray := prog_1_method_29_code
def yX0_divideSizes : MethodName := ⟨RX0, "divideSizes", "(III)V"⟩
abbrev cX0_takeQuotientDigit : ByteArray := prog_1_method_30_code
def yX0_takeQuotientDigit : MethodName := ⟨RX0, "takeQuotientDigit", "(II)I"⟩
abbrev cX0_takeRootOfSize : ByteArray := prog_1_method_31_code
def yX0_takeRootOfSize : MethodName := ⟨RX0, "takeRootOfSize", "(I)V"⟩
abbrev cX0_takeFirstRootDigit : ByteArray := prog_1_method_32_code
def yX0_takeFirstRootDigit : MethodName := ⟨RX0, "takeFirstRootDigit", "(I)V"⟩
abbrev cX0_rootOfPair : ByteArray := prog_1_method_33_code
def yX0_rootOfPair : MethodName := ⟨RX0, "rootOfPair", "(J)J"⟩
abbrev cX0_takeRootDigit : ByteArray := prog_1_method_34_code
def yX0_takeRootDigit : MethodName := ⟨RX0, "takeRootDigit", "(II)V"⟩
abbrev cX0_guessDigit : ByteArray := prog_1_method_35_code
def yX0_guessDigit : MethodName := ⟨RX0, "guessDigit", "(II)J"⟩
abbrev cX0_quotientOfPair : ByteArray := prog_1_method_36_code
def yX0_quotientOfPair : MethodName := ⟨RX0, "quotientOfPair", "(JJ)J"⟩
abbrev cX0_takeMultiple : ByteArray := prog_1_method_37_code
def yX0_takeMultiple : MethodName := ⟨RX0, "takeMultiple", "(IIIJ)Z"⟩
abbrev cX0_giveBack : ByteArray := prog_1_method_38_code
def yX0_giveBack : MethodName := ⟨RX0, "giveBack", "(IIIJ)Z"⟩
abbrev cX0_moveUp : ByteArray := prog_1_method_39_code
def yX0_moveUp : MethodName := ⟨RX0, "moveUp", "(II[I)V"⟩
abbrev cX0_moveDown : ByteArray := prog_1_method_40_code
def yX0_moveDown : MethodName := ⟨RX0, "moveDown", "([III)V"⟩
def RX1 : String := "WholeRegistersModel"
def TX1 : u_T := fun k => match k with
  | 0 => ("WholeRegistersModel", "code", "I", false)
  | 1 => ("WholeRegistersModel", "sign", "[I", true)
  | _ => ("WholeRegistersModel", "digits", "[I", true)
def tyX1 : Nat → FieldType := fun k => match k with
  | 0 => .int
  | 1 => .array .int
  | _ => .array .int
abbrev wsX10 : List Cond := u_ws RX1 TX1 3
theorem nmX1 : ∀ a, a < 3 → ∀ b, b < 3 → a ≠ b → (TX1 a).2.1 ≠ (TX1 b).2.1 := by decide +kernel
theorem tyX1_ok : ∀ k, k < 3 → parseFieldDescriptor (TX1 k).2.2.1 = some (tyX1 k) := by decide +kernel
abbrev cX1_init : ByteArray := prog_3_method_1_code
def yX1_init : MethodName := ⟨RX1, "<init>", "()V"⟩
abbrev cX1_thrown : ByteArray := prog_3_method_2_code
def yX1_thrown : MethodName := ⟨RX1, "thrown", "()I"⟩
abbrev cX1_isRegister : ByteArray := prog_3_method_3_code
def yX1_isRegister : MethodName := ⟨RX1, "isRegister", "(I)Z"⟩
abbrev cX1_get : ByteArray := prog_3_method_4_code
def yX1_get : MethodName := ⟨RX1, "get", "(II)I"⟩
abbrev cX1_put : ByteArray := prog_3_method_5_code
def yX1_put : MethodName := ⟨RX1, "put", "(III)V"⟩
abbrev cX1_clear : ByteArray := prog_3_method_6_code
def yX1_clear : MethodName := ⟨RX1, "clear", "(I)V"⟩
abbrev cX1_move : ByteArray := prog_3_method_7_code
def yX1_move : MethodName := ⟨RX1, "move", "(II)V"⟩
abbrev cX1_length : ByteArray := prog_3_method_8_code
def yX1_length : MethodName := ⟨RX1, "length", "(I)I"⟩
abbrev cX1_bitsOf : ByteArray := prog_3_method_9_code
def yX1_bitsOf : MethodName := ⟨RX1, "bitsOf", "(I)I"⟩
abbrev cX1_bit : ByteArray := prog_3_method_10_code
def yX1_bit : MethodName := ⟨RX1, "bit", "(II)I"⟩
abbrev cX1_order : ByteArray := prog_3_method_11_code
def yX1_order : MethodName := ⟨RX1, "order", "(II)I"⟩
abbrev cX1_give : ByteArray := prog_3_method_12_code
def yX1_give : MethodName := ⟨RX1, "give", "(I)V"⟩
abbrev cX1_set : ByteArray := prog_3_method_13_code
def yX1_set : MethodName := ⟨RX1, "set", "(IJ)V"⟩
abbrev cX1_append : ByteArray := prog_3_method_14_code
def yX1_append : MethodName := ⟨RX1, "append", "(II)V"⟩
abbrev cX1_negate : ByteArray := prog_3_method_15_code
def yX1_negate : MethodName := ⟨RX1, "negate", "(I)V"⟩
abbrev cX1_copy : ByteArray := prog_3_method_16_code
def yX1_copy : MethodName := ⟨RX1, "copy", "(II)V"⟩
abbrev cX1_take : ByteArray := prog_3_method_17_code
def yX1_take : MethodName := ⟨RX1, "take", "(III)Z"⟩
abbrev cX1_sum : ByteArray := prog_3_method_18_code
def yX1_sum : MethodName := ⟨RX1, "sum", "()V"⟩
abbrev cX1_less : ByteArray := prog_3_method_19_code
def yX1_less : MethodName := ⟨RX1, "less", "(III)V"⟩
abbrev cX1_add : ByteArray := prog_3_method_20_code
def yX1_add : MethodName := ⟨RX1, "add", "(III)V"⟩
abbrev cX1_subtract : ByteArray := prog_3_method_21_code
def yX1_subtract : MethodName := ⟨RX1, "subtract", "(III)V"⟩
abbrev cX1_multiply : ByteArray := prog_3_method_22_code
def yX1_multiply : MethodName := ⟨RX1, "multiply", "(III)V"⟩
abbrev cX1_shift : ByteArray := prog_3_method_23_code
def yX1_shift : MethodName := ⟨RX1, "shift", "(IIII)V"⟩
abbrev cX1_divide : ByteArray := prog_3_method_24_code
def yX1_divide : MethodName := ⟨RX1, "divide", "(IIII)V"⟩
abbrev cX1_isBelow : ByteArray := prog_3_method_25_code
def yX1_isBelow : MethodName := ⟨RX1, "isBelow", "(III)Z"⟩
abbrev cX1_lessBy : ByteArray := prog_3_method_26_code
def yX1_lessBy : MethodName := ⟨RX1, "lessBy", "(III)V"⟩
abbrev cX1_root : ByteArray := prog_3_method_27_code
def yX1_root : MethodName := ⟨RX1, "root", "(II)V"⟩
abbrev cX1_compare : ByteArray := prog_3_method_28_code
def yX1_compare : MethodName := ⟨RX1, "compare", "(II)I"⟩
abbrev cX1_compareSizes : ByteArray := prog_3_method_29_code
def yX1_compareSizes : MethodName := ⟨RX1, "compareSizes", "(II)I"⟩
abbrev cX1_sign : ByteArray := prog_3_method_30_code
def yX1_sign : MethodName := ⟨RX1, "sign", "(I)I"⟩
abbrev cX1_bits : ByteArray := prog_3_method_31_code
def yX1_bits : MethodName := ⟨RX1, "bits", "(I)I"⟩
abbrev cX1_word : ByteArray := prog_3_method_32_code
def yX1_word : MethodName := ⟨RX1, "word", "(II)I"⟩
abbrev cX1_residue : ByteArray := prog_3_method_33_code
def yX1_residue : MethodName := ⟨RX1, "residue", "(II)I"⟩
def RJ9 : String := "java/lang/Math"
def TJ9 : u_T := fun k => match k with
  | _ => ("", "", "", false)
def tyJ9 : Nat → FieldType := fun k => match k with
  | _ => .int
abbrev wsJ90 : List Cond := u_ws RJ9 TJ9 0
theorem nmJ9 : ∀ a, a < 0 → ∀ b, b < 0 → a ≠ b → (TJ9 a).2.1 ≠ (TJ9 b).2.1 := by decide +kernel
theorem tyJ9_ok : ∀ k, k < 0 → parseFieldDescriptor (TJ9 k).2.2.1 = some (tyJ9 k) := by decide +kernel
abbrev cJ9_max_7cf53 : ByteArray := prog_8_method_65_code
def yJ9_max_7cf53 : MethodName := ⟨RJ9, "max", "(II)I"⟩
abbrev cJ9_min_f86c9 : ByteArray := prog_8_method_70_code
def yJ9_min_f86c9 : MethodName := ⟨RJ9, "min", "(JJ)J"⟩
def RJ0 : String := "java/lang/String"
def TJ0 : u_T := fun k => match k with
  | _ => ("", "", "", false)
def tyJ0 : Nat → FieldType := fun k => match k with
  | _ => .int
abbrev wsJ00 : List Cond := u_ws RJ0 TJ0 0
theorem nmJ0 : ∀ a, a < 0 → ∀ b, b < 0 → a ≠ b → (TJ0 a).2.1 ≠ (TJ0 b).2.1 := by decide +kernel
theorem tyJ0_ok : ∀ k, k < 0 → parseFieldDescriptor (TJ0 k).2.2.1 = some (tyJ0 k) := by decide +kernel
def RJ10 : String := "java/lang/System"
def TJ10 : u_T := fun k => match k with
  | _ => ("", "", "", false)
def tyJ10 : Nat → FieldType := fun k => match k with
  | _ => .int
abbrev wsJ100 : List Cond := u_ws RJ10 TJ10 0
theorem nmJ10 : ∀ a, a < 0 → ∀ b, b < 0 → a ≠ b → (TJ10 a).2.1 ≠ (TJ10 b).2.1 := by decide +kernel
theorem tyJ10_ok : ∀ k, k < 0 → parseFieldDescriptor (TJ10 k).2.2.1 = some (tyJ10 k) := by decide +kernel
def RJ7 : String := "java/util/Arrays"
def TJ7 : u_T := fun k => match k with
  | _ => ("", "", "", false)
def tyJ7 : Nat → FieldType := fun k => match k with
  | _ => .int
abbrev wsJ70 : List Cond := u_ws RJ7 TJ7 0
theorem nmJ7 : ∀ a, a < 0 → ∀ b, b < 0 → a ≠ b → (TJ7 a).2.1 ≠ (TJ7 b).2.1 := by decide +kernel
theorem tyJ7_ok : ∀ k, k < 0 → parseFieldDescriptor (TJ7 k).2.2.1 = some (tyJ7 k) := by decide +kernel
abbrev cJ7_fill_53178 : ByteArray := prog_13_method_103_code
def yJ7_fill_53178 : MethodName := ⟨RJ7, "fill", "([II)V"⟩
def RL : String := "WholeRegistersLaw"
abbrev cL_set : ByteArray := method_3_code
def yL_set : MethodName := ⟨RL, "set", "(LWholeRegisters;IJ)I"⟩
abbrev cL_append : ByteArray := method_4_code
def yL_append : MethodName := ⟨RL, "append", "(LWholeRegisters;II)I"⟩
abbrev cL_negate : ByteArray := method_5_code
def yL_negate : MethodName := ⟨RL, "negate", "(LWholeRegisters;I)I"⟩
abbrev cL_copy : ByteArray := method_6_code
def yL_copy : MethodName := ⟨RL, "copy", "(LWholeRegisters;II)I"⟩
abbrev cL_add : ByteArray := method_7_code
def yL_add : MethodName := ⟨RL, "add", "(LWholeRegisters;III)I"⟩
abbrev cL_subtract : ByteArray := method_8_code
def yL_subtract : MethodName := ⟨RL, "subtract", "(LWholeRegisters;III)I"⟩
abbrev cL_multiply : ByteArray := method_9_code
def yL_multiply : MethodName := ⟨RL, "multiply", "(LWholeRegisters;III)I"⟩
abbrev cL_divide : ByteArray := method_10_code
def yL_divide : MethodName := ⟨RL, "divide", "(LWholeRegisters;IIII)I"⟩
abbrev cL_root : ByteArray := method_11_code
def yL_root : MethodName := ⟨RL, "root", "(LWholeRegisters;II)I"⟩
abbrev cL_compare : ByteArray := method_12_code
def yL_compare : MethodName := ⟨RL, "compare", "(LWholeRegisters;II[J)I"⟩
abbrev cL_compareSizes : ByteArray := method_13_code
def yL_compareSizes : MethodName := ⟨RL, "compareSizes", "(LWholeRegisters;II[J)I"⟩
abbrev cL_sign : ByteArray := method_14_code
def yL_sign : MethodName := ⟨RL, "sign", "(LWholeRegisters;I[J)I"⟩
abbrev cL_bits : ByteArray := method_15_code
def yL_bits : MethodName := ⟨RL, "bits", "(LWholeRegisters;I[J)I"⟩
abbrev cL_word : ByteArray := method_16_code
def yL_word : MethodName := ⟨RL, "word", "(LWholeRegisters;II[J)I"⟩
abbrev cL_residue : ByteArray := method_17_code
def yL_residue : MethodName := ⟨RL, "residue", "(LWholeRegisters;II[J)I"⟩
abbrev cL_law : ByteArray := code
def yL_law : MethodName := ⟨RL, "law", "([I)Z"⟩
def wsX0_init : List Cond := .code yX0_init cX0_init 1 none :: ([.methodLink RX0 3 objectInit, .instanceMethod objectInit, .code objectInit ⟨#[0xb1]⟩ 1 none, .classLink RX0 9 "[[I", .arrayClass .int, .fieldLink RX0 11 "WholeRegisters" "words" "[[I", .fieldLink RX0 14 "WholeRegisters" "counts" "[I", .fieldLink RX0 18 "WholeRegisters" "signs" "[I", .fieldLink RX0 21 "WholeRegisters" "result" "[I", .fieldLink RX0 24 "WholeRegisters" "left" "[I", .fieldLink RX0 27 "WholeRegisters" "divisor" "[I"] ++ wsX00)
def wsX0_checkRegister : List Cond := .code yX0_checkRegister cX0_checkRegister 1 none :: ([.classLink RX0 95 "java/lang/IndexOutOfBoundsException", .initialized "java/lang/IndexOutOfBoundsException"] ++ (vx_atS RX0 99 "java/lang/IndexOutOfBoundsException" ["java/lang/RuntimeException", "java/lang/Exception"]).filter goodWord)
def wsJ7_fill_53178 : List Cond := .code yJ7_fill_53178 cJ7_fill_53178 4 none :: ([])
def wsX0_keepResult : List Cond := .code yX0_keepResult cX0_keepResult 4 none :: ([.fieldLink RX0 21 "WholeRegisters" "result" "[I", .fieldLink RX0 11 "WholeRegisters" "words" "[[I", .methodLink RX0 51 arraycopyName, .native arraycopyName, .static arraycopyName, .initialized "java/lang/System", .fieldLink RX0 14 "WholeRegisters" "counts" "[I", .fieldLink RX0 18 "WholeRegisters" "signs" "[I"] ++ wsX00)
def wsX0_set : List Cond := .code yX0_set cX0_set 6 none :: ([.fieldLink RX0 21 "WholeRegisters" "result" "[I", .methodLink RX0 30 yX0_checkRegister, .static yX0_checkRegister, .initialized RX0, .code yX0_checkRegister cX0_checkRegister 1 none, .classLink RX0 95 "java/lang/IndexOutOfBoundsException", .initialized "java/lang/IndexOutOfBoundsException", .methodLink RX0 34 yJ7_fill_53178, .static yJ7_fill_53178, .initialized RJ7, .code yJ7_fill_53178 cJ7_fill_53178 4 none, .methodLink RX0 40 yX0_keepResult, .instanceMethod yX0_keepResult, .selects RX0 yX0_keepResult yX0_keepResult, .code yX0_keepResult cX0_keepResult 4 none, .fieldLink RX0 11 "WholeRegisters" "words" "[[I", .methodLink RX0 51 arraycopyName, .native arraycopyName, .static arraycopyName, .initialized "java/lang/System", .fieldLink RX0 14 "WholeRegisters" "counts" "[I", .fieldLink RX0 18 "WholeRegisters" "signs" "[I"] ++ wsX00 ++ (vx_atS RX0 99 "java/lang/IndexOutOfBoundsException" ["java/lang/RuntimeException", "java/lang/Exception"]).filter goodWord)
def wsX0_append : List Cond := .code yX0_append cX0_append 4 none :: ([.classLink RX0 44 "java/lang/IllegalStateException", .initialized "java/lang/IllegalStateException", .fieldLink RX0 14 "WholeRegisters" "counts" "[I", .fieldLink RX0 21 "WholeRegisters" "result" "[I", .fieldLink RX0 11 "WholeRegisters" "words" "[[I", .methodLink RX0 51 arraycopyName, .native arraycopyName, .static arraycopyName, .initialized "java/lang/System", .fieldLink RX0 18 "WholeRegisters" "signs" "[I", .methodLink RX0 30 yX0_checkRegister, .static yX0_checkRegister, .initialized RX0, .code yX0_checkRegister cX0_checkRegister 1 none, .classLink RX0 95 "java/lang/IndexOutOfBoundsException", .initialized "java/lang/IndexOutOfBoundsException", .methodLink RX0 34 yJ7_fill_53178, .static yJ7_fill_53178, .initialized RJ7, .code yJ7_fill_53178 cJ7_fill_53178 4 none, .methodLink RX0 40 yX0_keepResult, .instanceMethod yX0_keepResult, .selects RX0 yX0_keepResult yX0_keepResult, .code yX0_keepResult cX0_keepResult 4 none] ++ wsX00 ++ (vx_atS RX0 48 "java/lang/IllegalStateException" ["java/lang/RuntimeException", "java/lang/Exception"]).filter goodWord ++ (vx_atS RX0 99 "java/lang/IndexOutOfBoundsException" ["java/lang/RuntimeException", "java/lang/Exception"]).filter goodWord)
def wsX0_negate : List Cond := .code yX0_negate cX0_negate 2 none :: ([.fieldLink RX0 18 "WholeRegisters" "signs" "[I", .methodLink RX0 30 yX0_checkRegister, .static yX0_checkRegister, .initialized RX0, .code yX0_checkRegister cX0_checkRegister 1 none, .classLink RX0 95 "java/lang/IndexOutOfBoundsException", .initialized "java/lang/IndexOutOfBoundsException"] ++ wsX00 ++ (vx_atS RX0 99 "java/lang/IndexOutOfBoundsException" ["java/lang/RuntimeException", "java/lang/Exception"]).filter goodWord)
def wsX0_copy : List Cond := .code yX0_copy cX0_copy 3 none :: ([.fieldLink RX0 11 "WholeRegisters" "words" "[[I", .methodLink RX0 51 arraycopyName, .native arraycopyName, .static arraycopyName, .initialized "java/lang/System", .fieldLink RX0 14 "WholeRegisters" "counts" "[I", .fieldLink RX0 18 "WholeRegisters" "signs" "[I", .methodLink RX0 30 yX0_checkRegister, .static yX0_checkRegister, .initialized RX0, .code yX0_checkRegister cX0_checkRegister 1 none, .classLink RX0 95 "java/lang/IndexOutOfBoundsException", .initialized "java/lang/IndexOutOfBoundsException"] ++ wsX00 ++ (vx_atS RX0 99 "java/lang/IndexOutOfBoundsException" ["java/lang/RuntimeException", "java/lang/Exception"]).filter goodWord)
def wsX0_addSizes : List Cond := .code yX0_addSizes cX0_addSizes 9 none :: ([.fieldLink RX0 21 "WholeRegisters" "result" "[I", .fieldLink RX0 14 "WholeRegisters" "counts" "[I", .methodLink RX0 119 Lib.Math.max.name, .static Lib.Math.max.name, .initialized "java/lang/Math", .code Lib.Math.max.name Lib.Math.max.code 2 (some .int), .fieldLink RX0 11 "WholeRegisters" "words" "[[I", .constantLong RX0 108 (4294967295), .methodLink RX0 34 yJ7_fill_53178, .static yJ7_fill_53178, .initialized RJ7, .code yJ7_fill_53178 cJ7_fill_53178 4 none] ++ wsX00)
def wsX0_checkResultFits : List Cond := .code yX0_checkResultFits cX0_checkResultFits 1 none :: ([.classLink RX0 44 "java/lang/IllegalStateException", .initialized "java/lang/IllegalStateException", .fieldLink RX0 21 "WholeRegisters" "result" "[I"] ++ wsX00 ++ (vx_atS RX0 48 "java/lang/IllegalStateException" ["java/lang/RuntimeException", "java/lang/Exception"]).filter goodWord)
def wsX0_orderOfSizes : List Cond := .code yX0_orderOfSizes cX0_orderOfSizes 8 (some .int) :: ([.fieldLink RX0 14 "WholeRegisters" "counts" "[I", .fieldLink RX0 11 "WholeRegisters" "words" "[[I", .constantLong RX0 108 (4294967295)] ++ wsX00)
def wsX0_subtractSizes : List Cond := .code yX0_subtractSizes cX0_subtractSizes 8 none :: ([.fieldLink RX0 21 "WholeRegisters" "result" "[I", .fieldLink RX0 14 "WholeRegisters" "counts" "[I", .fieldLink RX0 11 "WholeRegisters" "words" "[[I", .constantLong RX0 108 (4294967295), .methodLink RX0 34 yJ7_fill_53178, .static yJ7_fill_53178, .initialized RJ7, .code yJ7_fill_53178 cJ7_fill_53178 4 none] ++ wsX00)
def wsX0_putSum_r1 : List Cond := [Cond.fieldLink RX0 18 "WholeRegisters" "signs" "[I", Cond.methodLink RX0 113 yX0_addSizes, Cond.instanceMethod yX0_addSizes, Cond.selects RX0 yX0_addSizes yX0_addSizes, Cond.initialized RX0, Cond.code yX0_addSizes cX0_addSizes 9 none, Cond.fieldLink RX0 21 "WholeRegisters" "result" "[I", Cond.fieldLink RX0 14 "WholeRegisters" "counts" "[I", Cond.methodLink RX0 119 Lib.Math.max.name, Cond.static Lib.Math.max.name, Cond.initialized "java/lang/Math", Cond.code Lib.Math.max.name Lib.Math.max.code 2 (some .int), Cond.fieldLink RX0 11 "WholeRegisters" "words" "[[I", Cond.constantLong RX0 108 (4294967295), Cond.methodLink RX0 34 yJ7_fill_53178, Cond.static yJ7_fill_53178, Cond.initialized RJ7, Cond.code yJ7_fill_53178 cJ7_fill_53178 4 none, Cond.methodLink RX0 64 yX0_checkResultFits, Cond.instanceMethod yX0_checkResultFits, Cond.selects RX0 yX0_checkResultFits yX0_checkResultFits, Cond.code yX0_checkResultFits cX0_checkResultFits 1 none, Cond.classLink RX0 44 "java/lang/IllegalStateException", Cond.initialized "java/lang/IllegalStateException"]
def wsX0_putSum_r2 : List Cond := [Cond.methodLink RX0 91 yX0_orderOfSizes, Cond.instanceMethod yX0_orderOfSizes, Cond.selects RX0 yX0_orderOfSizes yX0_orderOfSizes, Cond.code yX0_orderOfSizes cX0_orderOfSizes 8 (some .int), Cond.methodLink RX0 116 yX0_subtractSizes, Cond.instanceMethod yX0_subtractSizes, Cond.selects RX0 yX0_subtractSizes yX0_subtractSizes, Cond.code yX0_subtractSizes cX0_subtractSizes 8 none, Cond.methodLink RX0 40 yX0_keepResult, Cond.instanceMethod yX0_keepResult, Cond.selects RX0 yX0_keepResult yX0_keepResult, Cond.code yX0_keepResult cX0_keepResult 4 none, Cond.methodLink RX0 51 arraycopyName, Cond.native arraycopyName, Cond.static arraycopyName, Cond.initialized "java/lang/System"]
def wsX0_putSum : List Cond := .code yX0_putSum cX0_putSum 6 none :: ((wsX0_putSum_r1 ++ wsX0_putSum_r2) ++ wsX00 ++ (vx_atS RX0 48 "java/lang/IllegalStateException" ["java/lang/RuntimeException", "java/lang/Exception"]).filter goodWord)
def wsX0_add_r1 : List Cond := [Cond.fieldLink RX0 18 "WholeRegisters" "signs" "[I", Cond.methodLink RX0 30 yX0_checkRegister, Cond.static yX0_checkRegister, Cond.initialized RX0, Cond.code yX0_checkRegister cX0_checkRegister 1 none, Cond.classLink RX0 95 "java/lang/IndexOutOfBoundsException", Cond.initialized "java/lang/IndexOutOfBoundsException", Cond.methodLink RX0 57 yX0_putSum, Cond.instanceMethod yX0_putSum, Cond.selects RX0 yX0_putSum yX0_putSum, Cond.code yX0_putSum cX0_putSum 6 none, Cond.methodLink RX0 113 yX0_addSizes, Cond.instanceMethod yX0_addSizes, Cond.selects RX0 yX0_addSizes yX0_addSizes, Cond.code yX0_addSizes cX0_addSizes 9 none, Cond.fieldLink RX0 21 "WholeRegisters" "result" "[I", Cond.fieldLink RX0 14 "WholeRegisters" "counts" "[I", Cond.methodLink RX0 119 Lib.Math.max.name, Cond.static Lib.Math.max.name, Cond.initialized "java/lang/Math", Cond.code Lib.Math.max.name Lib.Math.max.code 2 (some .int), Cond.fieldLink RX0 11 "WholeRegisters" "words" "[[I", Cond.constantLong RX0 108 (4294967295), Cond.methodLink RX0 34 yJ7_fill_53178]
def wsX0_add_r2 : List Cond := [Cond.static yJ7_fill_53178, Cond.initialized RJ7, Cond.code yJ7_fill_53178 cJ7_fill_53178 4 none, Cond.methodLink RX0 64 yX0_checkResultFits, Cond.instanceMethod yX0_checkResultFits, Cond.selects RX0 yX0_checkResultFits yX0_checkResultFits, Cond.code yX0_checkResultFits cX0_checkResultFits 1 none, Cond.classLink RX0 44 "java/lang/IllegalStateException", Cond.initialized "java/lang/IllegalStateException", Cond.methodLink RX0 91 yX0_orderOfSizes, Cond.instanceMethod yX0_orderOfSizes, Cond.selects RX0 yX0_orderOfSizes yX0_orderOfSizes, Cond.code yX0_orderOfSizes cX0_orderOfSizes 8 (some .int), Cond.methodLink RX0 116 yX0_subtractSizes, Cond.instanceMethod yX0_subtractSizes, Cond.selects RX0 yX0_subtractSizes yX0_subtractSizes, Cond.code yX0_subtractSizes cX0_subtractSizes 8 none, Cond.methodLink RX0 40 yX0_keepResult, Cond.instanceMethod yX0_keepResult, Cond.selects RX0 yX0_keepResult yX0_keepResult, Cond.code yX0_keepResult cX0_keepResult 4 none, Cond.methodLink RX0 51 arraycopyName, Cond.native arraycopyName, Cond.static arraycopyName]
def wsX0_add_r3 : List Cond := [Cond.initialized "java/lang/System"]
def wsX0_add : List Cond := .code yX0_add cX0_add 4 none :: ((wsX0_add_r1 ++ (wsX0_add_r2 ++ wsX0_add_r3)) ++ wsX00 ++ (vx_atS RX0 99 "java/lang/IndexOutOfBoundsException" ["java/lang/RuntimeException", "java/lang/Exception"]).filter goodWord ++ (vx_atS RX0 48 "java/lang/IllegalStateException" ["java/lang/RuntimeException", "java/lang/Exception"]).filter goodWord)
def wsX0_subtract_r1 : List Cond := [Cond.fieldLink RX0 18 "WholeRegisters" "signs" "[I", Cond.methodLink RX0 30 yX0_checkRegister, Cond.static yX0_checkRegister, Cond.initialized RX0, Cond.code yX0_checkRegister cX0_checkRegister 1 none, Cond.classLink RX0 95 "java/lang/IndexOutOfBoundsException", Cond.initialized "java/lang/IndexOutOfBoundsException", Cond.methodLink RX0 57 yX0_putSum, Cond.instanceMethod yX0_putSum, Cond.selects RX0 yX0_putSum yX0_putSum, Cond.code yX0_putSum cX0_putSum 6 none, Cond.methodLink RX0 113 yX0_addSizes, Cond.instanceMethod yX0_addSizes, Cond.selects RX0 yX0_addSizes yX0_addSizes, Cond.code yX0_addSizes cX0_addSizes 9 none, Cond.fieldLink RX0 21 "WholeRegisters" "result" "[I", Cond.fieldLink RX0 14 "WholeRegisters" "counts" "[I", Cond.methodLink RX0 119 Lib.Math.max.name, Cond.static Lib.Math.max.name, Cond.initialized "java/lang/Math", Cond.code Lib.Math.max.name Lib.Math.max.code 2 (some .int), Cond.fieldLink RX0 11 "WholeRegisters" "words" "[[I", Cond.constantLong RX0 108 (4294967295), Cond.methodLink RX0 34 yJ7_fill_53178]
def wsX0_subtract_r2 : List Cond := [Cond.static yJ7_fill_53178, Cond.initialized RJ7, Cond.code yJ7_fill_53178 cJ7_fill_53178 4 none, Cond.methodLink RX0 64 yX0_checkResultFits, Cond.instanceMethod yX0_checkResultFits, Cond.selects RX0 yX0_checkResultFits yX0_checkResultFits, Cond.code yX0_checkResultFits cX0_checkResultFits 1 none, Cond.classLink RX0 44 "java/lang/IllegalStateException", Cond.initialized "java/lang/IllegalStateException", Cond.methodLink RX0 91 yX0_orderOfSizes, Cond.instanceMethod yX0_orderOfSizes, Cond.selects RX0 yX0_orderOfSizes yX0_orderOfSizes, Cond.code yX0_orderOfSizes cX0_orderOfSizes 8 (some .int), Cond.methodLink RX0 116 yX0_subtractSizes, Cond.instanceMethod yX0_subtractSizes, Cond.selects RX0 yX0_subtractSizes yX0_subtractSizes, Cond.code yX0_subtractSizes cX0_subtractSizes 8 none, Cond.methodLink RX0 40 yX0_keepResult, Cond.instanceMethod yX0_keepResult, Cond.selects RX0 yX0_keepResult yX0_keepResult, Cond.code yX0_keepResult cX0_keepResult 4 none, Cond.methodLink RX0 51 arraycopyName, Cond.native arraycopyName, Cond.static arraycopyName]
def wsX0_subtract_r3 : List Cond := [Cond.initialized "java/lang/System"]
def wsX0_subtract : List Cond := .code yX0_subtract cX0_subtract 4 none :: ((wsX0_subtract_r1 ++ (wsX0_subtract_r2 ++ wsX0_subtract_r3)) ++ wsX00 ++ (vx_atS RX0 99 "java/lang/IndexOutOfBoundsException" ["java/lang/RuntimeException", "java/lang/Exception"]).filter goodWord ++ (vx_atS RX0 48 "java/lang/IllegalStateException" ["java/lang/RuntimeException", "java/lang/Exception"]).filter goodWord)
def wsX0_addMultiple : List Cond := .code yX0_addMultiple cX0_addMultiple 12 none :: ([.fieldLink RX0 11 "WholeRegisters" "words" "[[I", .fieldLink RX0 14 "WholeRegisters" "counts" "[I", .constantLong RX0 108 (4294967295), .fieldLink RX0 21 "WholeRegisters" "result" "[I"] ++ wsX00)
def wsX0_multiplySizes : List Cond := .code yX0_multiplySizes cX0_multiplySizes 4 none :: ([.fieldLink RX0 21 "WholeRegisters" "result" "[I", .fieldLink RX0 14 "WholeRegisters" "counts" "[I", .fieldLink RX0 11 "WholeRegisters" "words" "[[I", .constantLong RX0 108 (4294967295), .methodLink RX0 34 yJ7_fill_53178, .static yJ7_fill_53178, .initialized RJ7, .code yJ7_fill_53178 cJ7_fill_53178 4 none, .methodLink RX0 124 yX0_addMultiple, .instanceMethod yX0_addMultiple, .selects RX0 yX0_addMultiple yX0_addMultiple, .initialized RX0, .code yX0_addMultiple cX0_addMultiple 12 none] ++ wsX00)
def wsX0_multiply_r1 : List Cond := [Cond.classLink RX0 44 "java/lang/IllegalStateException", Cond.initialized "java/lang/IllegalStateException", Cond.fieldLink RX0 14 "WholeRegisters" "counts" "[I", Cond.fieldLink RX0 18 "WholeRegisters" "signs" "[I", Cond.methodLink RX0 30 yX0_checkRegister, Cond.static yX0_checkRegister, Cond.initialized RX0, Cond.code yX0_checkRegister cX0_checkRegister 1 none, Cond.classLink RX0 95 "java/lang/IndexOutOfBoundsException", Cond.initialized "java/lang/IndexOutOfBoundsException", Cond.methodLink RX0 61 yX0_multiplySizes, Cond.instanceMethod yX0_multiplySizes, Cond.selects RX0 yX0_multiplySizes yX0_multiplySizes, Cond.code yX0_multiplySizes cX0_multiplySizes 4 none, Cond.fieldLink RX0 21 "WholeRegisters" "result" "[I", Cond.fieldLink RX0 11 "WholeRegisters" "words" "[[I", Cond.constantLong RX0 108 (4294967295), Cond.methodLink RX0 34 yJ7_fill_53178, Cond.static yJ7_fill_53178, Cond.initialized RJ7, Cond.code yJ7_fill_53178 cJ7_fill_53178 4 none, Cond.methodLink RX0 124 yX0_addMultiple, Cond.instanceMethod yX0_addMultiple, Cond.selects RX0 yX0_addMultiple yX0_addMultiple]
def wsX0_multiply_r2 : List Cond := [Cond.code yX0_addMultiple cX0_addMultiple 12 none, Cond.methodLink RX0 64 yX0_checkResultFits, Cond.instanceMethod yX0_checkResultFits, Cond.selects RX0 yX0_checkResultFits yX0_checkResultFits, Cond.code yX0_checkResultFits cX0_checkResultFits 1 none, Cond.methodLink RX0 40 yX0_keepResult, Cond.instanceMethod yX0_keepResult, Cond.selects RX0 yX0_keepResult yX0_keepResult, Cond.code yX0_keepResult cX0_keepResult 4 none, Cond.methodLink RX0 51 arraycopyName, Cond.native arraycopyName, Cond.static arraycopyName, Cond.initialized "java/lang/System"]
def wsX0_multiply : List Cond := .code yX0_multiply cX0_multiply 4 none :: ((wsX0_multiply_r1 ++ wsX0_multiply_r2) ++ wsX00 ++ (vx_atS RX0 48 "java/lang/IllegalStateException" ["java/lang/RuntimeException", "java/lang/Exception"]).filter goodWord ++ (vx_atS RX0 99 "java/lang/IndexOutOfBoundsException" ["java/lang/RuntimeException", "java/lang/Exception"]).filter goodWord)
def wsX0_bitsOfWord : List Cond := .code yX0_bitsOfWord cX0_bitsOfWord 2 (some .int) :: ([])
def wsX0_bitsOf : List Cond := .code yX0_bitsOf cX0_bitsOf 3 (some .int) :: ([.fieldLink RX0 14 "WholeRegisters" "counts" "[I", .fieldLink RX0 11 "WholeRegisters" "words" "[[I", .methodLink RX0 110 yX0_bitsOfWord, .static yX0_bitsOfWord, .initialized RX0, .code yX0_bitsOfWord cX0_bitsOfWord 2 (some .int)] ++ wsX00)
def wsX0_moveUp : List Cond := .code yX0_moveUp cX0_moveUp 9 none :: ([.fieldLink RX0 14 "WholeRegisters" "counts" "[I", .fieldLink RX0 11 "WholeRegisters" "words" "[[I", .constantLong RX0 108 (4294967295), .methodLink RX0 34 yJ7_fill_53178, .static yJ7_fill_53178, .initialized RJ7, .code yJ7_fill_53178 cJ7_fill_53178 4 none] ++ wsX00)
def wsX0_pairOf : List Cond := .code yX0_pairOf cX0_pairOf 3 (some .long) :: ([.constantLong RX0 108 (4294967295)])
def wsX0_quotientOfPair : List Cond := .code yX0_quotientOfPair cX0_quotientOfPair 6 (some .long) :: ([.constantLong RX0 156 (2)])
def wsX0_guessDigit : List Cond := .code yX0_guessDigit cX0_guessDigit 5 (some .long) :: ([.fieldLink RX0 24 "WholeRegisters" "left" "[I", .fieldLink RX0 27 "WholeRegisters" "divisor" "[I", .constantLong RX0 108 (4294967295), .methodLink RX0 162 Lib.MathLoose.min_long.x, .static Lib.MathLoose.min_long.x, .initialized "java/lang/Math", .code Lib.MathLoose.min_long.x Lib.MathLoose.min_long.code 4 (some .long), .methodLink RX0 102 yX0_pairOf, .static yX0_pairOf, .initialized RX0, .code yX0_pairOf cX0_pairOf 3 (some .long), .methodLink RX0 158 yX0_quotientOfPair, .static yX0_quotientOfPair, .code yX0_quotientOfPair cX0_quotientOfPair 6 (some .long), .constantLong RX0 156 (2)] ++ wsX00)
def wsX0_takeMultiple : List Cond := .code yX0_takeMultiple cX0_takeMultiple 13 (some .boolean) :: ([.fieldLink RX0 27 "WholeRegisters" "divisor" "[I", .constantLong RX0 108 (4294967295), .fieldLink RX0 24 "WholeRegisters" "left" "[I"] ++ wsX00)
def wsX0_giveBack : List Cond := .code yX0_giveBack cX0_giveBack 11 (some .boolean) :: ([.fieldLink RX0 24 "WholeRegisters" "left" "[I", .constantLong RX0 108 (4294967295), .fieldLink RX0 27 "WholeRegisters" "divisor" "[I"] ++ wsX00)
def wsX0_takeQuotientDigit_r1 : List Cond := [Cond.methodLink RX0 135 yX0_guessDigit, Cond.instanceMethod yX0_guessDigit, Cond.selects RX0 yX0_guessDigit yX0_guessDigit, Cond.initialized RX0, Cond.code yX0_guessDigit cX0_guessDigit 5 (some .long), Cond.fieldLink RX0 24 "WholeRegisters" "left" "[I", Cond.fieldLink RX0 27 "WholeRegisters" "divisor" "[I", Cond.constantLong RX0 108 (4294967295), Cond.methodLink RX0 162 Lib.MathLoose.min_long.x, Cond.static Lib.MathLoose.min_long.x, Cond.initialized "java/lang/Math", Cond.code Lib.MathLoose.min_long.x Lib.MathLoose.min_long.code 4 (some .long), Cond.methodLink RX0 102 yX0_pairOf, Cond.static yX0_pairOf, Cond.code yX0_pairOf cX0_pairOf 3 (some .long), Cond.methodLink RX0 158 yX0_quotientOfPair, Cond.static yX0_quotientOfPair, Cond.code yX0_quotientOfPair cX0_quotientOfPair 6 (some .long), Cond.constantLong RX0 156 (2), Cond.methodLink RX0 139 yX0_takeMultiple, Cond.instanceMethod yX0_takeMultiple, Cond.selects RX0 yX0_takeMultiple yX0_takeMultiple, Cond.code yX0_takeMultiple cX0_takeMultiple 13 (some .boolean), Cond.methodLink RX0 143 yX0_giveBack]
def wsX0_takeQuotientDigit_r2 : List Cond := [Cond.instanceMethod yX0_giveBack, Cond.selects RX0 yX0_giveBack yX0_giveBack, Cond.code yX0_giveBack cX0_giveBack 11 (some .boolean)]
def wsX0_takeQuotientDigit : List Cond := .code yX0_takeQuotientDigit cX0_takeQuotientDigit 7 (some .int) :: ((wsX0_takeQuotientDigit_r1 ++ wsX0_takeQuotientDigit_r2) ++ wsX00)
def wsX0_divideSizes_r1 : List Cond := [Cond.fieldLink RX0 24 "WholeRegisters" "left" "[I", Cond.fieldLink RX0 27 "WholeRegisters" "divisor" "[I", Cond.fieldLink RX0 21 "WholeRegisters" "result" "[I", Cond.fieldLink RX0 14 "WholeRegisters" "counts" "[I", Cond.methodLink RX0 128 yX0_moveUp, Cond.instanceMethod yX0_moveUp, Cond.selects RX0 yX0_moveUp yX0_moveUp, Cond.initialized RX0, Cond.code yX0_moveUp cX0_moveUp 9 none, Cond.fieldLink RX0 11 "WholeRegisters" "words" "[[I", Cond.constantLong RX0 108 (4294967295), Cond.methodLink RX0 34 yJ7_fill_53178, Cond.static yJ7_fill_53178, Cond.initialized RJ7, Cond.code yJ7_fill_53178 cJ7_fill_53178 4 none, Cond.methodLink RX0 132 yX0_takeQuotientDigit, Cond.instanceMethod yX0_takeQuotientDigit, Cond.selects RX0 yX0_takeQuotientDigit yX0_takeQuotientDigit, Cond.code yX0_takeQuotientDigit cX0_takeQuotientDigit 7 (some .int), Cond.methodLink RX0 135 yX0_guessDigit, Cond.instanceMethod yX0_guessDigit, Cond.selects RX0 yX0_guessDigit yX0_guessDigit, Cond.code yX0_guessDigit cX0_guessDigit 5 (some .long), Cond.methodLink RX0 162 Lib.MathLoose.min_long.x]
def wsX0_divideSizes_r2 : List Cond := [Cond.static Lib.MathLoose.min_long.x, Cond.initialized "java/lang/Math", Cond.code Lib.MathLoose.min_long.x Lib.MathLoose.min_long.code 4 (some .long), Cond.methodLink RX0 102 yX0_pairOf, Cond.static yX0_pairOf, Cond.code yX0_pairOf cX0_pairOf 3 (some .long), Cond.methodLink RX0 158 yX0_quotientOfPair, Cond.static yX0_quotientOfPair, Cond.code yX0_quotientOfPair cX0_quotientOfPair 6 (some .long), Cond.constantLong RX0 156 (2), Cond.methodLink RX0 139 yX0_takeMultiple, Cond.instanceMethod yX0_takeMultiple, Cond.selects RX0 yX0_takeMultiple yX0_takeMultiple, Cond.code yX0_takeMultiple cX0_takeMultiple 13 (some .boolean), Cond.methodLink RX0 143 yX0_giveBack, Cond.instanceMethod yX0_giveBack, Cond.selects RX0 yX0_giveBack yX0_giveBack, Cond.code yX0_giveBack cX0_giveBack 11 (some .boolean)]
def wsX0_divideSizes : List Cond := .code yX0_divideSizes cX0_divideSizes 6 none :: ((wsX0_divideSizes_r1 ++ wsX0_divideSizes_r2) ++ wsX00)
def wsX0_moveDown : List Cond := .code yX0_moveDown cX0_moveDown 7 none :: ([.fieldLink RX0 21 "WholeRegisters" "result" "[I", .methodLink RX0 34 yJ7_fill_53178, .static yJ7_fill_53178, .initialized RJ7, .code yJ7_fill_53178 cJ7_fill_53178 4 none, .methodLink RX0 102 yX0_pairOf, .static yX0_pairOf, .initialized RX0, .code yX0_pairOf cX0_pairOf 3 (some .long), .constantLong RX0 108 (4294967295)] ++ wsX00)
def wsX0_divide_r1 : List Cond := [Cond.classLink RX0 67 "java/lang/IllegalArgumentException", Cond.initialized "java/lang/IllegalArgumentException", Cond.fieldLink RX0 18 "WholeRegisters" "signs" "[I", Cond.fieldLink RX0 14 "WholeRegisters" "counts" "[I", Cond.fieldLink RX0 24 "WholeRegisters" "left" "[I", Cond.methodLink RX0 30 yX0_checkRegister, Cond.static yX0_checkRegister, Cond.initialized RX0, Cond.code yX0_checkRegister cX0_checkRegister 1 none, Cond.classLink RX0 95 "java/lang/IndexOutOfBoundsException", Cond.initialized "java/lang/IndexOutOfBoundsException", Cond.methodLink RX0 74 yX0_bitsOf, Cond.instanceMethod yX0_bitsOf, Cond.selects RX0 yX0_bitsOf yX0_bitsOf, Cond.code yX0_bitsOf cX0_bitsOf 3 (some .int), Cond.fieldLink RX0 11 "WholeRegisters" "words" "[[I", Cond.methodLink RX0 110 yX0_bitsOfWord, Cond.static yX0_bitsOfWord, Cond.code yX0_bitsOfWord cX0_bitsOfWord 2 (some .int), Cond.methodLink RX0 78 yX0_divideSizes, Cond.instanceMethod yX0_divideSizes, Cond.selects RX0 yX0_divideSizes yX0_divideSizes, Cond.code yX0_divideSizes cX0_divideSizes 6 none, Cond.fieldLink RX0 27 "WholeRegisters" "divisor" "[I"]
def wsX0_divide_r2 : List Cond := [Cond.fieldLink RX0 21 "WholeRegisters" "result" "[I", Cond.methodLink RX0 128 yX0_moveUp, Cond.instanceMethod yX0_moveUp, Cond.selects RX0 yX0_moveUp yX0_moveUp, Cond.code yX0_moveUp cX0_moveUp 9 none, Cond.constantLong RX0 108 (4294967295), Cond.methodLink RX0 34 yJ7_fill_53178, Cond.static yJ7_fill_53178, Cond.initialized RJ7, Cond.code yJ7_fill_53178 cJ7_fill_53178 4 none, Cond.methodLink RX0 132 yX0_takeQuotientDigit, Cond.instanceMethod yX0_takeQuotientDigit, Cond.selects RX0 yX0_takeQuotientDigit yX0_takeQuotientDigit, Cond.code yX0_takeQuotientDigit cX0_takeQuotientDigit 7 (some .int), Cond.methodLink RX0 135 yX0_guessDigit, Cond.instanceMethod yX0_guessDigit, Cond.selects RX0 yX0_guessDigit yX0_guessDigit, Cond.code yX0_guessDigit cX0_guessDigit 5 (some .long), Cond.methodLink RX0 162 Lib.MathLoose.min_long.x, Cond.static Lib.MathLoose.min_long.x, Cond.initialized "java/lang/Math", Cond.code Lib.MathLoose.min_long.x Lib.MathLoose.min_long.code 4 (some .long), Cond.methodLink RX0 102 yX0_pairOf, Cond.static yX0_pairOf]
def wsX0_divide_r3 : List Cond := [Cond.code yX0_pairOf cX0_pairOf 3 (some .long), Cond.methodLink RX0 158 yX0_quotientOfPair, Cond.static yX0_quotientOfPair, Cond.code yX0_quotientOfPair cX0_quotientOfPair 6 (some .long), Cond.constantLong RX0 156 (2), Cond.methodLink RX0 139 yX0_takeMultiple, Cond.instanceMethod yX0_takeMultiple, Cond.selects RX0 yX0_takeMultiple yX0_takeMultiple, Cond.code yX0_takeMultiple cX0_takeMultiple 13 (some .boolean), Cond.methodLink RX0 143 yX0_giveBack, Cond.instanceMethod yX0_giveBack, Cond.selects RX0 yX0_giveBack yX0_giveBack, Cond.code yX0_giveBack cX0_giveBack 11 (some .boolean), Cond.methodLink RX0 40 yX0_keepResult, Cond.instanceMethod yX0_keepResult, Cond.selects RX0 yX0_keepResult yX0_keepResult, Cond.code yX0_keepResult cX0_keepResult 4 none, Cond.methodLink RX0 51 arraycopyName, Cond.native arraycopyName, Cond.static arraycopyName, Cond.initialized "java/lang/System", Cond.methodLink RX0 82 yX0_moveDown, Cond.instanceMethod yX0_moveDown, Cond.selects RX0 yX0_moveDown yX0_moveDown]
def wsX0_divide_r4 : List Cond := [Cond.code yX0_moveDown cX0_moveDown 7 none]
def wsX0_divide : List Cond := .code yX0_divide cX0_divide 9 none :: ((wsX0_divide_r1 ++ (wsX0_divide_r2 ++ (wsX0_divide_r3 ++ wsX0_divide_r4))) ++ wsX00 ++ (vx_atS RX0 71 "java/lang/IllegalArgumentException" ["java/lang/RuntimeException", "java/lang/Exception"]).filter goodWord ++ (vx_atS RX0 99 "java/lang/IndexOutOfBoundsException" ["java/lang/RuntimeException", "java/lang/Exception"]).filter goodWord)
def wsX0_rootOfPair : List Cond := .code yX0_rootOfPair cX0_rootOfPair 7 (some .long) :: ([])
def wsX0_takeFirstRootDigit : List Cond := .code yX0_takeFirstRootDigit cX0_takeFirstRootDigit 7 none :: ([.fieldLink RX0 24 "WholeRegisters" "left" "[I", .fieldLink RX0 27 "WholeRegisters" "divisor" "[I", .constantLong RX0 156 (2), .methodLink RX0 102 yX0_pairOf, .static yX0_pairOf, .initialized RX0, .code yX0_pairOf cX0_pairOf 3 (some .long), .constantLong RX0 108 (4294967295), .methodLink RX0 152 yX0_rootOfPair, .static yX0_rootOfPair, .code yX0_rootOfPair cX0_rootOfPair 7 (some .long)] ++ wsX00)
def wsX0_takeRootDigit_r1 : List Cond := [Cond.fieldLink RX0 27 "WholeRegisters" "divisor" "[I", Cond.methodLink RX0 135 yX0_guessDigit, Cond.instanceMethod yX0_guessDigit, Cond.selects RX0 yX0_guessDigit yX0_guessDigit, Cond.initialized RX0, Cond.code yX0_guessDigit cX0_guessDigit 5 (some .long), Cond.fieldLink RX0 24 "WholeRegisters" "left" "[I", Cond.constantLong RX0 108 (4294967295), Cond.methodLink RX0 162 Lib.MathLoose.min_long.x, Cond.static Lib.MathLoose.min_long.x, Cond.initialized "java/lang/Math", Cond.code Lib.MathLoose.min_long.x Lib.MathLoose.min_long.code 4 (some .long), Cond.methodLink RX0 102 yX0_pairOf, Cond.static yX0_pairOf, Cond.code yX0_pairOf cX0_pairOf 3 (some .long), Cond.methodLink RX0 158 yX0_quotientOfPair, Cond.static yX0_quotientOfPair, Cond.code yX0_quotientOfPair cX0_quotientOfPair 6 (some .long), Cond.constantLong RX0 156 (2), Cond.methodLink RX0 139 yX0_takeMultiple, Cond.instanceMethod yX0_takeMultiple, Cond.selects RX0 yX0_takeMultiple yX0_takeMultiple, Cond.code yX0_takeMultiple cX0_takeMultiple 13 (some .boolean), Cond.methodLink RX0 143 yX0_giveBack]
def wsX0_takeRootDigit_r2 : List Cond := [Cond.instanceMethod yX0_giveBack, Cond.selects RX0 yX0_giveBack yX0_giveBack, Cond.code yX0_giveBack cX0_giveBack 11 (some .boolean)]
def wsX0_takeRootDigit : List Cond := .code yX0_takeRootDigit cX0_takeRootDigit 9 none :: ((wsX0_takeRootDigit_r1 ++ wsX0_takeRootDigit_r2) ++ wsX00)
def wsX0_takeRootOfSize_r1 : List Cond := [Cond.fieldLink RX0 24 "WholeRegisters" "left" "[I", Cond.fieldLink RX0 27 "WholeRegisters" "divisor" "[I", Cond.methodLink RX0 74 yX0_bitsOf, Cond.instanceMethod yX0_bitsOf, Cond.selects RX0 yX0_bitsOf yX0_bitsOf, Cond.initialized RX0, Cond.code yX0_bitsOf cX0_bitsOf 3 (some .int), Cond.fieldLink RX0 14 "WholeRegisters" "counts" "[I", Cond.fieldLink RX0 11 "WholeRegisters" "words" "[[I", Cond.methodLink RX0 110 yX0_bitsOfWord, Cond.static yX0_bitsOfWord, Cond.code yX0_bitsOfWord cX0_bitsOfWord 2 (some .int), Cond.methodLink RX0 128 yX0_moveUp, Cond.instanceMethod yX0_moveUp, Cond.selects RX0 yX0_moveUp yX0_moveUp, Cond.code yX0_moveUp cX0_moveUp 9 none, Cond.constantLong RX0 108 (4294967295), Cond.methodLink RX0 34 yJ7_fill_53178, Cond.static yJ7_fill_53178, Cond.initialized RJ7, Cond.code yJ7_fill_53178 cJ7_fill_53178 4 none, Cond.methodLink RX0 146 yX0_takeFirstRootDigit, Cond.instanceMethod yX0_takeFirstRootDigit, Cond.selects RX0 yX0_takeFirstRootDigit yX0_takeFirstRootDigit]
def wsX0_takeRootOfSize_r2 : List Cond := [Cond.code yX0_takeFirstRootDigit cX0_takeFirstRootDigit 7 none, Cond.constantLong RX0 156 (2), Cond.methodLink RX0 102 yX0_pairOf, Cond.static yX0_pairOf, Cond.code yX0_pairOf cX0_pairOf 3 (some .long), Cond.methodLink RX0 152 yX0_rootOfPair, Cond.static yX0_rootOfPair, Cond.code yX0_rootOfPair cX0_rootOfPair 7 (some .long), Cond.methodLink RX0 149 yX0_takeRootDigit, Cond.instanceMethod yX0_takeRootDigit, Cond.selects RX0 yX0_takeRootDigit yX0_takeRootDigit, Cond.code yX0_takeRootDigit cX0_takeRootDigit 9 none, Cond.methodLink RX0 135 yX0_guessDigit, Cond.instanceMethod yX0_guessDigit, Cond.selects RX0 yX0_guessDigit yX0_guessDigit, Cond.code yX0_guessDigit cX0_guessDigit 5 (some .long), Cond.methodLink RX0 162 Lib.MathLoose.min_long.x, Cond.static Lib.MathLoose.min_long.x, Cond.initialized "java/lang/Math", Cond.code Lib.MathLoose.min_long.x Lib.MathLoose.min_long.code 4 (some .long), Cond.methodLink RX0 158 yX0_quotientOfPair, Cond.static yX0_quotientOfPair, Cond.code yX0_quotientOfPair cX0_quotientOfPair 6 (some .long), Cond.methodLink RX0 139 yX0_takeMultiple]
def wsX0_takeRootOfSize_r3 : List Cond := [Cond.instanceMethod yX0_takeMultiple, Cond.selects RX0 yX0_takeMultiple yX0_takeMultiple, Cond.code yX0_takeMultiple cX0_takeMultiple 13 (some .boolean), Cond.methodLink RX0 143 yX0_giveBack, Cond.instanceMethod yX0_giveBack, Cond.selects RX0 yX0_giveBack yX0_giveBack, Cond.code yX0_giveBack cX0_giveBack 11 (some .boolean), Cond.methodLink RX0 82 yX0_moveDown, Cond.instanceMethod yX0_moveDown, Cond.selects RX0 yX0_moveDown yX0_moveDown, Cond.code yX0_moveDown cX0_moveDown 7 none, Cond.fieldLink RX0 21 "WholeRegisters" "result" "[I"]
def wsX0_takeRootOfSize : List Cond := .code yX0_takeRootOfSize cX0_takeRootOfSize 6 none :: ((wsX0_takeRootOfSize_r1 ++ (wsX0_takeRootOfSize_r2 ++ wsX0_takeRootOfSize_r3)) ++ wsX00)
def wsX0_root_r1 : List Cond := [Cond.classLink RX0 67 "java/lang/IllegalArgumentException", Cond.initialized "java/lang/IllegalArgumentException", Cond.fieldLink RX0 18 "WholeRegisters" "signs" "[I", Cond.fieldLink RX0 21 "WholeRegisters" "result" "[I", Cond.methodLink RX0 30 yX0_checkRegister, Cond.static yX0_checkRegister, Cond.initialized RX0, Cond.code yX0_checkRegister cX0_checkRegister 1 none, Cond.classLink RX0 95 "java/lang/IndexOutOfBoundsException", Cond.initialized "java/lang/IndexOutOfBoundsException", Cond.methodLink RX0 34 yJ7_fill_53178, Cond.static yJ7_fill_53178, Cond.initialized RJ7, Cond.code yJ7_fill_53178 cJ7_fill_53178 4 none, Cond.methodLink RX0 88 yX0_takeRootOfSize, Cond.instanceMethod yX0_takeRootOfSize, Cond.selects RX0 yX0_takeRootOfSize yX0_takeRootOfSize, Cond.code yX0_takeRootOfSize cX0_takeRootOfSize 6 none, Cond.fieldLink RX0 24 "WholeRegisters" "left" "[I", Cond.fieldLink RX0 27 "WholeRegisters" "divisor" "[I", Cond.methodLink RX0 74 yX0_bitsOf, Cond.instanceMethod yX0_bitsOf, Cond.selects RX0 yX0_bitsOf yX0_bitsOf, Cond.code yX0_bitsOf cX0_bitsOf 3 (some .int)]
def wsX0_root_r2 : List Cond := [Cond.fieldLink RX0 14 "WholeRegisters" "counts" "[I", Cond.fieldLink RX0 11 "WholeRegisters" "words" "[[I", Cond.methodLink RX0 110 yX0_bitsOfWord, Cond.static yX0_bitsOfWord, Cond.code yX0_bitsOfWord cX0_bitsOfWord 2 (some .int), Cond.methodLink RX0 128 yX0_moveUp, Cond.instanceMethod yX0_moveUp, Cond.selects RX0 yX0_moveUp yX0_moveUp, Cond.code yX0_moveUp cX0_moveUp 9 none, Cond.constantLong RX0 108 (4294967295), Cond.methodLink RX0 146 yX0_takeFirstRootDigit, Cond.instanceMethod yX0_takeFirstRootDigit, Cond.selects RX0 yX0_takeFirstRootDigit yX0_takeFirstRootDigit, Cond.code yX0_takeFirstRootDigit cX0_takeFirstRootDigit 7 none, Cond.constantLong RX0 156 (2), Cond.methodLink RX0 102 yX0_pairOf, Cond.static yX0_pairOf, Cond.code yX0_pairOf cX0_pairOf 3 (some .long), Cond.methodLink RX0 152 yX0_rootOfPair, Cond.static yX0_rootOfPair, Cond.code yX0_rootOfPair cX0_rootOfPair 7 (some .long), Cond.methodLink RX0 149 yX0_takeRootDigit, Cond.instanceMethod yX0_takeRootDigit, Cond.selects RX0 yX0_takeRootDigit yX0_takeRootDigit]
def wsX0_root_r3 : List Cond := [Cond.code yX0_takeRootDigit cX0_takeRootDigit 9 none, Cond.methodLink RX0 135 yX0_guessDigit, Cond.instanceMethod yX0_guessDigit, Cond.selects RX0 yX0_guessDigit yX0_guessDigit, Cond.code yX0_guessDigit cX0_guessDigit 5 (some .long), Cond.methodLink RX0 162 Lib.MathLoose.min_long.x, Cond.static Lib.MathLoose.min_long.x, Cond.initialized "java/lang/Math", Cond.code Lib.MathLoose.min_long.x Lib.MathLoose.min_long.code 4 (some .long), Cond.methodLink RX0 158 yX0_quotientOfPair, Cond.static yX0_quotientOfPair, Cond.code yX0_quotientOfPair cX0_quotientOfPair 6 (some .long), Cond.methodLink RX0 139 yX0_takeMultiple, Cond.instanceMethod yX0_takeMultiple, Cond.selects RX0 yX0_takeMultiple yX0_takeMultiple, Cond.code yX0_takeMultiple cX0_takeMultiple 13 (some .boolean), Cond.methodLink RX0 143 yX0_giveBack, Cond.instanceMethod yX0_giveBack, Cond.selects RX0 yX0_giveBack yX0_giveBack, Cond.code yX0_giveBack cX0_giveBack 11 (some .boolean), Cond.methodLink RX0 82 yX0_moveDown, Cond.instanceMethod yX0_moveDown, Cond.selects RX0 yX0_moveDown yX0_moveDown, Cond.code yX0_moveDown cX0_moveDown 7 none]
def wsX0_root_r4 : List Cond := [Cond.methodLink RX0 40 yX0_keepResult, Cond.instanceMethod yX0_keepResult, Cond.selects RX0 yX0_keepResult yX0_keepResult, Cond.code yX0_keepResult cX0_keepResult 4 none, Cond.methodLink RX0 51 arraycopyName, Cond.native arraycopyName, Cond.static arraycopyName, Cond.initialized "java/lang/System"]
def wsX0_root : List Cond := .code yX0_root cX0_root 3 none :: ((wsX0_root_r1 ++ (wsX0_root_r2 ++ (wsX0_root_r3 ++ wsX0_root_r4))) ++ wsX00 ++ (vx_atS RX0 71 "java/lang/IllegalArgumentException" ["java/lang/RuntimeException", "java/lang/Exception"]).filter goodWord ++ (vx_atS RX0 99 "java/lang/IndexOutOfBoundsException" ["java/lang/RuntimeException", "java/lang/Exception"]).filter goodWord)
def wsX0_compare : List Cond := .code yX0_compare cX0_compare 3 (some .int) :: ([.fieldLink RX0 18 "WholeRegisters" "signs" "[I", .methodLink RX0 30 yX0_checkRegister, .static yX0_checkRegister, .initialized RX0, .code yX0_checkRegister cX0_checkRegister 1 none, .classLink RX0 95 "java/lang/IndexOutOfBoundsException", .initialized "java/lang/IndexOutOfBoundsException", .methodLink RX0 91 yX0_orderOfSizes, .instanceMethod yX0_orderOfSizes, .selects RX0 yX0_orderOfSizes yX0_orderOfSizes, .code yX0_orderOfSizes cX0_orderOfSizes 8 (some .int), .fieldLink RX0 14 "WholeRegisters" "counts" "[I", .fieldLink RX0 11 "WholeRegisters" "words" "[[I", .constantLong RX0 108 (4294967295)] ++ wsX00 ++ (vx_atS RX0 99 "java/lang/IndexOutOfBoundsException" ["java/lang/RuntimeException", "java/lang/Exception"]).filter goodWord)
def wsX0_compareSizes : List Cond := .code yX0_compareSizes cX0_compareSizes 3 (some .int) :: ([.methodLink RX0 30 yX0_checkRegister, .static yX0_checkRegister, .initialized RX0, .code yX0_checkRegister cX0_checkRegister 1 none, .classLink RX0 95 "java/lang/IndexOutOfBoundsException", .initialized "java/lang/IndexOutOfBoundsException", .methodLink RX0 91 yX0_orderOfSizes, .instanceMethod yX0_orderOfSizes, .selects RX0 yX0_orderOfSizes yX0_orderOfSizes, .code yX0_orderOfSizes cX0_orderOfSizes 8 (some .int), .fieldLink RX0 14 "WholeRegisters" "counts" "[I", .fieldLink RX0 11 "WholeRegisters" "words" "[[I", .constantLong RX0 108 (4294967295)] ++ wsX00 ++ (vx_atS RX0 99 "java/lang/IndexOutOfBoundsException" ["java/lang/RuntimeException", "java/lang/Exception"]).filter goodWord)
def wsX0_sign : List Cond := .code yX0_sign cX0_sign 2 (some .int) :: ([.fieldLink RX0 18 "WholeRegisters" "signs" "[I", .methodLink RX0 30 yX0_checkRegister, .static yX0_checkRegister, .initialized RX0, .code yX0_checkRegister cX0_checkRegister 1 none, .classLink RX0 95 "java/lang/IndexOutOfBoundsException", .initialized "java/lang/IndexOutOfBoundsException"] ++ wsX00 ++ (vx_atS RX0 99 "java/lang/IndexOutOfBoundsException" ["java/lang/RuntimeException", "java/lang/Exception"]).filter goodWord)
def wsX0_bits : List Cond := .code yX0_bits cX0_bits 2 (some .int) :: ([.methodLink RX0 30 yX0_checkRegister, .static yX0_checkRegister, .initialized RX0, .code yX0_checkRegister cX0_checkRegister 1 none, .classLink RX0 95 "java/lang/IndexOutOfBoundsException", .initialized "java/lang/IndexOutOfBoundsException", .methodLink RX0 74 yX0_bitsOf, .instanceMethod yX0_bitsOf, .selects RX0 yX0_bitsOf yX0_bitsOf, .code yX0_bitsOf cX0_bitsOf 3 (some .int), .fieldLink RX0 14 "WholeRegisters" "counts" "[I", .fieldLink RX0 11 "WholeRegisters" "words" "[[I", .methodLink RX0 110 yX0_bitsOfWord, .static yX0_bitsOfWord, .code yX0_bitsOfWord cX0_bitsOfWord 2 (some .int)] ++ wsX00 ++ (vx_atS RX0 99 "java/lang/IndexOutOfBoundsException" ["java/lang/RuntimeException", "java/lang/Exception"]).filter goodWord)
def wsX0_word : List Cond := .code yX0_word cX0_word 3 (some .int) :: ([.classLink RX0 95 "java/lang/IndexOutOfBoundsException", .initialized "java/lang/IndexOutOfBoundsException", .fieldLink RX0 11 "WholeRegisters" "words" "[[I", .methodLink RX0 30 yX0_checkRegister, .static yX0_checkRegister, .initialized RX0, .code yX0_checkRegister cX0_checkRegister 1 none] ++ wsX00 ++ (vx_atS RX0 99 "java/lang/IndexOutOfBoundsException" ["java/lang/RuntimeException", "java/lang/Exception"]).filter goodWord)
def wsX0_residue : List Cond := .code yX0_residue cX0_residue 6 (some .int) :: ([.classLink RX0 67 "java/lang/IllegalArgumentException", .initialized "java/lang/IllegalArgumentException", .fieldLink RX0 14 "WholeRegisters" "counts" "[I", .fieldLink RX0 11 "WholeRegisters" "words" "[[I", .fieldLink RX0 18 "WholeRegisters" "signs" "[I", .methodLink RX0 30 yX0_checkRegister, .static yX0_checkRegister, .initialized RX0, .code yX0_checkRegister cX0_checkRegister 1 none, .classLink RX0 95 "java/lang/IndexOutOfBoundsException", .initialized "java/lang/IndexOutOfBoundsException", .methodLink RX0 102 yX0_pairOf, .static yX0_pairOf, .code yX0_pairOf cX0_pairOf 3 (some .long), .constantLong RX0 108 (4294967295)] ++ wsX00 ++ (vx_atS RX0 71 "java/lang/IllegalArgumentException" ["java/lang/RuntimeException", "java/lang/Exception"]).filter goodWord ++ (vx_atS RX0 99 "java/lang/IndexOutOfBoundsException" ["java/lang/RuntimeException", "java/lang/Exception"]).filter goodWord)
def wsX1_init : List Cond := .code yX1_init cX1_init 1 none :: ([.methodLink RX1 1 objectInit, .instanceMethod objectInit, .code objectInit ⟨#[0xb1]⟩ 1 none, .arrayClass .int, .fieldLink RX1 7 "WholeRegistersModel" "sign" "[I", .constant RX1 13 (33600), .fieldLink RX1 14 "WholeRegistersModel" "digits" "[I"] ++ wsX10)
def wsX1_thrown : List Cond := .code yX1_thrown cX1_thrown 1 (some .int) :: ([.fieldLink RX1 17 "WholeRegistersModel" "code" "I"] ++ wsX10)
def wsX1_isRegister : List Cond := .code yX1_isRegister cX1_isRegister 1 (some .boolean) :: ([])
def wsX1_get : List Cond := .code yX1_get cX1_get 3 (some .int) :: ([.fieldLink RX1 14 "WholeRegistersModel" "digits" "[I"] ++ wsX10)
def wsX1_put : List Cond := .code yX1_put cX1_put 4 none :: ([.fieldLink RX1 14 "WholeRegistersModel" "digits" "[I"] ++ wsX10)
def wsX1_clear : List Cond := .code yX1_clear cX1_clear 3 none :: ([.fieldLink RX1 7 "WholeRegistersModel" "sign" "[I", .methodLink RX1 21 yX1_put, .instanceMethod yX1_put, .selects RX1 yX1_put yX1_put, .initialized RX1, .code yX1_put cX1_put 4 none, .fieldLink RX1 14 "WholeRegistersModel" "digits" "[I"] ++ wsX10)
def wsX1_move : List Cond := .code yX1_move cX1_move 4 none :: ([.fieldLink RX1 7 "WholeRegistersModel" "sign" "[I", .methodLink RX1 25 yX1_get, .instanceMethod yX1_get, .selects RX1 yX1_get yX1_get, .initialized RX1, .code yX1_get cX1_get 3 (some .int), .fieldLink RX1 14 "WholeRegistersModel" "digits" "[I", .methodLink RX1 21 yX1_put, .instanceMethod yX1_put, .selects RX1 yX1_put yX1_put, .code yX1_put cX1_put 4 none] ++ wsX10)
def wsX1_length : List Cond := .code yX1_length cX1_length 3 (some .int) :: ([.methodLink RX1 25 yX1_get, .instanceMethod yX1_get, .selects RX1 yX1_get yX1_get, .initialized RX1, .code yX1_get cX1_get 3 (some .int), .fieldLink RX1 14 "WholeRegistersModel" "digits" "[I"] ++ wsX10)
def wsX1_bitsOf : List Cond := .code yX1_bitsOf cX1_bitsOf 5 (some .int) :: ([.methodLink RX1 29 yX1_length, .instanceMethod yX1_length, .selects RX1 yX1_length yX1_length, .initialized RX1, .code yX1_length cX1_length 3 (some .int), .methodLink RX1 25 yX1_get, .instanceMethod yX1_get, .selects RX1 yX1_get yX1_get, .code yX1_get cX1_get 3 (some .int), .fieldLink RX1 14 "WholeRegistersModel" "digits" "[I"] ++ wsX10)
def wsX1_bit : List Cond := .code yX1_bit cX1_bit 3 (some .int) :: ([.methodLink RX1 25 yX1_get, .instanceMethod yX1_get, .selects RX1 yX1_get yX1_get, .initialized RX1, .code yX1_get cX1_get 3 (some .int), .fieldLink RX1 14 "WholeRegistersModel" "digits" "[I"] ++ wsX10)
def wsX1_order : List Cond := .code yX1_order cX1_order 4 (some .int) :: ([.methodLink RX1 25 yX1_get, .instanceMethod yX1_get, .selects RX1 yX1_get yX1_get, .initialized RX1, .code yX1_get cX1_get 3 (some .int), .fieldLink RX1 14 "WholeRegistersModel" "digits" "[I"] ++ wsX10)
def wsX1_give : List Cond := .code yX1_give cX1_give 2 none :: ([.fieldLink RX1 17 "WholeRegistersModel" "code" "I", .fieldLink RX1 7 "WholeRegistersModel" "sign" "[I", .methodLink RX1 29 yX1_length, .instanceMethod yX1_length, .selects RX1 yX1_length yX1_length, .initialized RX1, .code yX1_length cX1_length 3 (some .int), .methodLink RX1 25 yX1_get, .instanceMethod yX1_get, .selects RX1 yX1_get yX1_get, .code yX1_get cX1_get 3 (some .int), .fieldLink RX1 14 "WholeRegistersModel" "digits" "[I", .methodLink RX1 33 yX1_move, .instanceMethod yX1_move, .selects RX1 yX1_move yX1_move, .code yX1_move cX1_move 4 none, .methodLink RX1 21 yX1_put, .instanceMethod yX1_put, .selects RX1 yX1_put yX1_put, .code yX1_put cX1_put 4 none] ++ wsX10)
def wsX1_set : List Cond := .code yX1_set cX1_set 7 none :: ([.fieldLink RX1 17 "WholeRegistersModel" "code" "I", .fieldLink RX1 7 "WholeRegistersModel" "sign" "[I", .constant RX1 45 (65535), .methodLink RX1 37 yX1_isRegister, .static yX1_isRegister, .initialized RX1, .code yX1_isRegister cX1_isRegister 1 (some .boolean), .methodLink RX1 41 yX1_clear, .instanceMethod yX1_clear, .selects RX1 yX1_clear yX1_clear, .code yX1_clear cX1_clear 3 none, .methodLink RX1 21 yX1_put, .instanceMethod yX1_put, .selects RX1 yX1_put yX1_put, .code yX1_put cX1_put 4 none, .fieldLink RX1 14 "WholeRegistersModel" "digits" "[I"] ++ wsX10)
def wsX1_append_r1 : List Cond := [Cond.fieldLink RX1 17 "WholeRegistersModel" "code" "I", Cond.constant RX1 45 (65535), Cond.fieldLink RX1 7 "WholeRegistersModel" "sign" "[I", Cond.methodLink RX1 37 yX1_isRegister, Cond.static yX1_isRegister, Cond.initialized RX1, Cond.code yX1_isRegister cX1_isRegister 1 (some .boolean), Cond.methodLink RX1 41 yX1_clear, Cond.instanceMethod yX1_clear, Cond.selects RX1 yX1_clear yX1_clear, Cond.code yX1_clear cX1_clear 3 none, Cond.methodLink RX1 21 yX1_put, Cond.instanceMethod yX1_put, Cond.selects RX1 yX1_put yX1_put, Cond.code yX1_put cX1_put 4 none, Cond.fieldLink RX1 14 "WholeRegistersModel" "digits" "[I", Cond.methodLink RX1 25 yX1_get, Cond.instanceMethod yX1_get, Cond.selects RX1 yX1_get yX1_get, Cond.code yX1_get cX1_get 3 (some .int), Cond.methodLink RX1 46 yX1_give, Cond.instanceMethod yX1_give, Cond.selects RX1 yX1_give yX1_give, Cond.code yX1_give cX1_give 2 none]
def wsX1_append_r2 : List Cond := [Cond.methodLink RX1 29 yX1_length, Cond.instanceMethod yX1_length, Cond.selects RX1 yX1_length yX1_length, Cond.code yX1_length cX1_length 3 (some .int), Cond.methodLink RX1 33 yX1_move, Cond.instanceMethod yX1_move, Cond.selects RX1 yX1_move yX1_move, Cond.code yX1_move cX1_move 4 none]
def wsX1_append : List Cond := .code yX1_append cX1_append 4 none :: ((wsX1_append_r1 ++ wsX1_append_r2) ++ wsX10)
def wsX1_negate : List Cond := .code yX1_negate cX1_negate 2 none :: ([.fieldLink RX1 17 "WholeRegistersModel" "code" "I", .fieldLink RX1 7 "WholeRegistersModel" "sign" "[I", .methodLink RX1 37 yX1_isRegister, .static yX1_isRegister, .initialized RX1, .code yX1_isRegister cX1_isRegister 1 (some .boolean)] ++ wsX10)
def wsX1_copy : List Cond := .code yX1_copy cX1_copy 3 none :: ([.fieldLink RX1 17 "WholeRegistersModel" "code" "I", .methodLink RX1 37 yX1_isRegister, .static yX1_isRegister, .initialized RX1, .code yX1_isRegister cX1_isRegister 1 (some .boolean), .methodLink RX1 33 yX1_move, .instanceMethod yX1_move, .selects RX1 yX1_move yX1_move, .code yX1_move cX1_move 4 none, .fieldLink RX1 7 "WholeRegistersModel" "sign" "[I", .methodLink RX1 25 yX1_get, .instanceMethod yX1_get, .selects RX1 yX1_get yX1_get, .code yX1_get cX1_get 3 (some .int), .fieldLink RX1 14 "WholeRegistersModel" "digits" "[I", .methodLink RX1 21 yX1_put, .instanceMethod yX1_put, .selects RX1 yX1_put yX1_put, .code yX1_put cX1_put 4 none] ++ wsX10)
def wsX1_take : List Cond := .code yX1_take cX1_take 4 (some .boolean) :: ([.fieldLink RX1 17 "WholeRegistersModel" "code" "I", .methodLink RX1 37 yX1_isRegister, .static yX1_isRegister, .initialized RX1, .code yX1_isRegister cX1_isRegister 1 (some .boolean), .methodLink RX1 33 yX1_move, .instanceMethod yX1_move, .selects RX1 yX1_move yX1_move, .code yX1_move cX1_move 4 none, .fieldLink RX1 7 "WholeRegistersModel" "sign" "[I", .methodLink RX1 25 yX1_get, .instanceMethod yX1_get, .selects RX1 yX1_get yX1_get, .code yX1_get cX1_get 3 (some .int), .fieldLink RX1 14 "WholeRegistersModel" "digits" "[I", .methodLink RX1 21 yX1_put, .instanceMethod yX1_put, .selects RX1 yX1_put yX1_put, .code yX1_put cX1_put 4 none, .methodLink RX1 41 yX1_clear, .instanceMethod yX1_clear, .selects RX1 yX1_clear yX1_clear, .code yX1_clear cX1_clear 3 none] ++ wsX10)
def wsX1_less : List Cond := .code yX1_less cX1_less 7 none :: ([.methodLink RX1 25 yX1_get, .instanceMethod yX1_get, .selects RX1 yX1_get yX1_get, .initialized RX1, .code yX1_get cX1_get 3 (some .int), .fieldLink RX1 14 "WholeRegistersModel" "digits" "[I", .methodLink RX1 21 yX1_put, .instanceMethod yX1_put, .selects RX1 yX1_put yX1_put, .code yX1_put cX1_put 4 none] ++ wsX10)
def wsX1_sum : List Cond := .code yX1_sum cX1_sum 4 none :: ([.fieldLink RX1 7 "WholeRegistersModel" "sign" "[I", .constant RX1 45 (65535), .methodLink RX1 25 yX1_get, .instanceMethod yX1_get, .selects RX1 yX1_get yX1_get, .initialized RX1, .code yX1_get cX1_get 3 (some .int), .fieldLink RX1 14 "WholeRegistersModel" "digits" "[I", .methodLink RX1 21 yX1_put, .instanceMethod yX1_put, .selects RX1 yX1_put yX1_put, .code yX1_put cX1_put 4 none, .methodLink RX1 49 yX1_order, .instanceMethod yX1_order, .selects RX1 yX1_order yX1_order, .code yX1_order cX1_order 4 (some .int), .methodLink RX1 52 yX1_less, .instanceMethod yX1_less, .selects RX1 yX1_less yX1_less, .code yX1_less cX1_less 7 none] ++ wsX10)
def wsX1_add_r1 : List Cond := [Cond.methodLink RX1 55 yX1_take, Cond.instanceMethod yX1_take, Cond.selects RX1 yX1_take yX1_take, Cond.initialized RX1, Cond.code yX1_take cX1_take 4 (some .boolean), Cond.fieldLink RX1 17 "WholeRegistersModel" "code" "I", Cond.methodLink RX1 37 yX1_isRegister, Cond.static yX1_isRegister, Cond.code yX1_isRegister cX1_isRegister 1 (some .boolean), Cond.methodLink RX1 33 yX1_move, Cond.instanceMethod yX1_move, Cond.selects RX1 yX1_move yX1_move, Cond.code yX1_move cX1_move 4 none, Cond.fieldLink RX1 7 "WholeRegistersModel" "sign" "[I", Cond.methodLink RX1 25 yX1_get, Cond.instanceMethod yX1_get, Cond.selects RX1 yX1_get yX1_get, Cond.code yX1_get cX1_get 3 (some .int), Cond.fieldLink RX1 14 "WholeRegistersModel" "digits" "[I", Cond.methodLink RX1 21 yX1_put, Cond.instanceMethod yX1_put, Cond.selects RX1 yX1_put yX1_put, Cond.code yX1_put cX1_put 4 none, Cond.methodLink RX1 41 yX1_clear]
def wsX1_add_r2 : List Cond := [Cond.instanceMethod yX1_clear, Cond.selects RX1 yX1_clear yX1_clear, Cond.code yX1_clear cX1_clear 3 none, Cond.methodLink RX1 59 yX1_sum, Cond.instanceMethod yX1_sum, Cond.selects RX1 yX1_sum yX1_sum, Cond.code yX1_sum cX1_sum 4 none, Cond.constant RX1 45 (65535), Cond.methodLink RX1 49 yX1_order, Cond.instanceMethod yX1_order, Cond.selects RX1 yX1_order yX1_order, Cond.code yX1_order cX1_order 4 (some .int), Cond.methodLink RX1 52 yX1_less, Cond.instanceMethod yX1_less, Cond.selects RX1 yX1_less yX1_less, Cond.code yX1_less cX1_less 7 none, Cond.methodLink RX1 46 yX1_give, Cond.instanceMethod yX1_give, Cond.selects RX1 yX1_give yX1_give, Cond.code yX1_give cX1_give 2 none, Cond.methodLink RX1 29 yX1_length, Cond.instanceMethod yX1_length, Cond.selects RX1 yX1_length yX1_length, Cond.code yX1_length cX1_length 3 (some .int)]
def wsX1_add : List Cond := .code yX1_add cX1_add 4 none :: ((wsX1_add_r1 ++ wsX1_add_r2) ++ wsX10)
def wsX1_subtract_r1 : List Cond := [Cond.fieldLink RX1 7 "WholeRegistersModel" "sign" "[I", Cond.methodLink RX1 55 yX1_take, Cond.instanceMethod yX1_take, Cond.selects RX1 yX1_take yX1_take, Cond.initialized RX1, Cond.code yX1_take cX1_take 4 (some .boolean), Cond.fieldLink RX1 17 "WholeRegistersModel" "code" "I", Cond.methodLink RX1 37 yX1_isRegister, Cond.static yX1_isRegister, Cond.code yX1_isRegister cX1_isRegister 1 (some .boolean), Cond.methodLink RX1 33 yX1_move, Cond.instanceMethod yX1_move, Cond.selects RX1 yX1_move yX1_move, Cond.code yX1_move cX1_move 4 none, Cond.methodLink RX1 25 yX1_get, Cond.instanceMethod yX1_get, Cond.selects RX1 yX1_get yX1_get, Cond.code yX1_get cX1_get 3 (some .int), Cond.fieldLink RX1 14 "WholeRegistersModel" "digits" "[I", Cond.methodLink RX1 21 yX1_put, Cond.instanceMethod yX1_put, Cond.selects RX1 yX1_put yX1_put, Cond.code yX1_put cX1_put 4 none, Cond.methodLink RX1 41 yX1_clear]
def wsX1_subtract_r2 : List Cond := [Cond.instanceMethod yX1_clear, Cond.selects RX1 yX1_clear yX1_clear, Cond.code yX1_clear cX1_clear 3 none, Cond.methodLink RX1 59 yX1_sum, Cond.instanceMethod yX1_sum, Cond.selects RX1 yX1_sum yX1_sum, Cond.code yX1_sum cX1_sum 4 none, Cond.constant RX1 45 (65535), Cond.methodLink RX1 49 yX1_order, Cond.instanceMethod yX1_order, Cond.selects RX1 yX1_order yX1_order, Cond.code yX1_order cX1_order 4 (some .int), Cond.methodLink RX1 52 yX1_less, Cond.instanceMethod yX1_less, Cond.selects RX1 yX1_less yX1_less, Cond.code yX1_less cX1_less 7 none, Cond.methodLink RX1 46 yX1_give, Cond.instanceMethod yX1_give, Cond.selects RX1 yX1_give yX1_give, Cond.code yX1_give cX1_give 2 none, Cond.methodLink RX1 29 yX1_length, Cond.instanceMethod yX1_length, Cond.selects RX1 yX1_length yX1_length, Cond.code yX1_length cX1_length 3 (some .int)]
def wsX1_subtract : List Cond := .code yX1_subtract cX1_subtract 4 none :: ((wsX1_subtract_r1 ++ wsX1_subtract_r2) ++ wsX10)
def wsX1_multiply_r1 : List Cond := [Cond.constantLong RX1 62 (65535), Cond.fieldLink RX1 7 "WholeRegistersModel" "sign" "[I", Cond.methodLink RX1 55 yX1_take, Cond.instanceMethod yX1_take, Cond.selects RX1 yX1_take yX1_take, Cond.initialized RX1, Cond.code yX1_take cX1_take 4 (some .boolean), Cond.fieldLink RX1 17 "WholeRegistersModel" "code" "I", Cond.methodLink RX1 37 yX1_isRegister, Cond.static yX1_isRegister, Cond.code yX1_isRegister cX1_isRegister 1 (some .boolean), Cond.methodLink RX1 33 yX1_move, Cond.instanceMethod yX1_move, Cond.selects RX1 yX1_move yX1_move, Cond.code yX1_move cX1_move 4 none, Cond.methodLink RX1 25 yX1_get, Cond.instanceMethod yX1_get, Cond.selects RX1 yX1_get yX1_get, Cond.code yX1_get cX1_get 3 (some .int), Cond.fieldLink RX1 14 "WholeRegistersModel" "digits" "[I", Cond.methodLink RX1 21 yX1_put, Cond.instanceMethod yX1_put, Cond.selects RX1 yX1_put yX1_put, Cond.code yX1_put cX1_put 4 none]
def wsX1_multiply_r2 : List Cond := [Cond.methodLink RX1 41 yX1_clear, Cond.instanceMethod yX1_clear, Cond.selects RX1 yX1_clear yX1_clear, Cond.code yX1_clear cX1_clear 3 none, Cond.methodLink RX1 29 yX1_length, Cond.instanceMethod yX1_length, Cond.selects RX1 yX1_length yX1_length, Cond.code yX1_length cX1_length 3 (some .int), Cond.methodLink RX1 46 yX1_give, Cond.instanceMethod yX1_give, Cond.selects RX1 yX1_give yX1_give, Cond.code yX1_give cX1_give 2 none]
def wsX1_multiply : List Cond := .code yX1_multiply cX1_multiply 11 none :: ((wsX1_multiply_r1 ++ wsX1_multiply_r2) ++ wsX10)
def wsX1_shift : List Cond := .code yX1_shift cX1_shift 8 none :: ([.constant RX1 45 (65535), .methodLink RX1 25 yX1_get, .instanceMethod yX1_get, .selects RX1 yX1_get yX1_get, .initialized RX1, .code yX1_get cX1_get 3 (some .int), .fieldLink RX1 14 "WholeRegistersModel" "digits" "[I", .methodLink RX1 21 yX1_put, .instanceMethod yX1_put, .selects RX1 yX1_put yX1_put, .code yX1_put cX1_put 4 none] ++ wsX10)
def wsX1_isBelow : List Cond := .code yX1_isBelow cX1_isBelow 5 (some .boolean) :: ([.methodLink RX1 25 yX1_get, .instanceMethod yX1_get, .selects RX1 yX1_get yX1_get, .initialized RX1, .code yX1_get cX1_get 3 (some .int), .fieldLink RX1 14 "WholeRegistersModel" "digits" "[I"] ++ wsX10)
def wsX1_lessBy : List Cond := .code yX1_lessBy cX1_lessBy 7 none :: ([.methodLink RX1 25 yX1_get, .instanceMethod yX1_get, .selects RX1 yX1_get yX1_get, .initialized RX1, .code yX1_get cX1_get 3 (some .int), .fieldLink RX1 14 "WholeRegistersModel" "digits" "[I", .methodLink RX1 21 yX1_put, .instanceMethod yX1_put, .selects RX1 yX1_put yX1_put, .code yX1_put cX1_put 4 none] ++ wsX10)
def wsX1_divide_r1 : List Cond := [Cond.fieldLink RX1 17 "WholeRegistersModel" "code" "I", Cond.fieldLink RX1 7 "WholeRegistersModel" "sign" "[I", Cond.methodLink RX1 37 yX1_isRegister, Cond.static yX1_isRegister, Cond.initialized RX1, Cond.code yX1_isRegister cX1_isRegister 1 (some .boolean), Cond.methodLink RX1 33 yX1_move, Cond.instanceMethod yX1_move, Cond.selects RX1 yX1_move yX1_move, Cond.code yX1_move cX1_move 4 none, Cond.methodLink RX1 25 yX1_get, Cond.instanceMethod yX1_get, Cond.selects RX1 yX1_get yX1_get, Cond.code yX1_get cX1_get 3 (some .int), Cond.fieldLink RX1 14 "WholeRegistersModel" "digits" "[I", Cond.methodLink RX1 21 yX1_put, Cond.instanceMethod yX1_put, Cond.selects RX1 yX1_put yX1_put, Cond.code yX1_put cX1_put 4 none, Cond.methodLink RX1 41 yX1_clear, Cond.instanceMethod yX1_clear, Cond.selects RX1 yX1_clear yX1_clear, Cond.code yX1_clear cX1_clear 3 none, Cond.methodLink RX1 29 yX1_length]
def wsX1_divide_r2 : List Cond := [Cond.instanceMethod yX1_length, Cond.selects RX1 yX1_length yX1_length, Cond.code yX1_length cX1_length 3 (some .int), Cond.methodLink RX1 64 yX1_bitsOf, Cond.instanceMethod yX1_bitsOf, Cond.selects RX1 yX1_bitsOf yX1_bitsOf, Cond.code yX1_bitsOf cX1_bitsOf 5 (some .int), Cond.methodLink RX1 67 yX1_bit, Cond.instanceMethod yX1_bit, Cond.selects RX1 yX1_bit yX1_bit, Cond.code yX1_bit cX1_bit 3 (some .int), Cond.methodLink RX1 70 yX1_shift, Cond.instanceMethod yX1_shift, Cond.selects RX1 yX1_shift yX1_shift, Cond.code yX1_shift cX1_shift 8 none, Cond.constant RX1 45 (65535), Cond.methodLink RX1 74 yX1_isBelow, Cond.instanceMethod yX1_isBelow, Cond.selects RX1 yX1_isBelow yX1_isBelow, Cond.code yX1_isBelow cX1_isBelow 5 (some .boolean), Cond.methodLink RX1 77 yX1_lessBy, Cond.instanceMethod yX1_lessBy, Cond.selects RX1 yX1_lessBy yX1_lessBy, Cond.code yX1_lessBy cX1_lessBy 7 none]
def wsX1_divide : List Cond := .code yX1_divide cX1_divide 7 none :: ((wsX1_divide_r1 ++ wsX1_divide_r2) ++ wsX10)
def wsX1_root_r1 : List Cond := [Cond.fieldLink RX1 17 "WholeRegistersModel" "code" "I", Cond.fieldLink RX1 7 "WholeRegistersModel" "sign" "[I", Cond.methodLink RX1 37 yX1_isRegister, Cond.static yX1_isRegister, Cond.initialized RX1, Cond.code yX1_isRegister cX1_isRegister 1 (some .boolean), Cond.methodLink RX1 33 yX1_move, Cond.instanceMethod yX1_move, Cond.selects RX1 yX1_move yX1_move, Cond.code yX1_move cX1_move 4 none, Cond.methodLink RX1 25 yX1_get, Cond.instanceMethod yX1_get, Cond.selects RX1 yX1_get yX1_get, Cond.code yX1_get cX1_get 3 (some .int), Cond.fieldLink RX1 14 "WholeRegistersModel" "digits" "[I", Cond.methodLink RX1 21 yX1_put, Cond.instanceMethod yX1_put, Cond.selects RX1 yX1_put yX1_put, Cond.code yX1_put cX1_put 4 none, Cond.methodLink RX1 41 yX1_clear, Cond.instanceMethod yX1_clear, Cond.selects RX1 yX1_clear yX1_clear, Cond.code yX1_clear cX1_clear 3 none, Cond.methodLink RX1 29 yX1_length]
def wsX1_root_r2 : List Cond := [Cond.instanceMethod yX1_length, Cond.selects RX1 yX1_length yX1_length, Cond.code yX1_length cX1_length 3 (some .int), Cond.methodLink RX1 64 yX1_bitsOf, Cond.instanceMethod yX1_bitsOf, Cond.selects RX1 yX1_bitsOf yX1_bitsOf, Cond.code yX1_bitsOf cX1_bitsOf 5 (some .int), Cond.methodLink RX1 67 yX1_bit, Cond.instanceMethod yX1_bit, Cond.selects RX1 yX1_bit yX1_bit, Cond.code yX1_bit cX1_bit 3 (some .int), Cond.methodLink RX1 70 yX1_shift, Cond.instanceMethod yX1_shift, Cond.selects RX1 yX1_shift yX1_shift, Cond.code yX1_shift cX1_shift 8 none, Cond.constant RX1 45 (65535), Cond.methodLink RX1 74 yX1_isBelow, Cond.instanceMethod yX1_isBelow, Cond.selects RX1 yX1_isBelow yX1_isBelow, Cond.code yX1_isBelow cX1_isBelow 5 (some .boolean), Cond.methodLink RX1 77 yX1_lessBy, Cond.instanceMethod yX1_lessBy, Cond.selects RX1 yX1_lessBy yX1_lessBy, Cond.code yX1_lessBy cX1_lessBy 7 none]
def wsX1_root : List Cond := .code yX1_root cX1_root 6 none :: ((wsX1_root_r1 ++ wsX1_root_r2) ++ wsX10)
def wsX1_compare : List Cond := .code yX1_compare cX1_compare 3 (some .int) :: ([.fieldLink RX1 17 "WholeRegistersModel" "code" "I", .fieldLink RX1 7 "WholeRegistersModel" "sign" "[I", .methodLink RX1 37 yX1_isRegister, .static yX1_isRegister, .initialized RX1, .code yX1_isRegister cX1_isRegister 1 (some .boolean), .methodLink RX1 49 yX1_order, .instanceMethod yX1_order, .selects RX1 yX1_order yX1_order, .code yX1_order cX1_order 4 (some .int), .methodLink RX1 25 yX1_get, .instanceMethod yX1_get, .selects RX1 yX1_get yX1_get, .code yX1_get cX1_get 3 (some .int), .fieldLink RX1 14 "WholeRegistersModel" "digits" "[I"] ++ wsX10)
def wsX1_compareSizes : List Cond := .code yX1_compareSizes cX1_compareSizes 3 (some .int) :: ([.fieldLink RX1 17 "WholeRegistersModel" "code" "I", .methodLink RX1 37 yX1_isRegister, .static yX1_isRegister, .initialized RX1, .code yX1_isRegister cX1_isRegister 1 (some .boolean), .methodLink RX1 49 yX1_order, .instanceMethod yX1_order, .selects RX1 yX1_order yX1_order, .code yX1_order cX1_order 4 (some .int), .methodLink RX1 25 yX1_get, .instanceMethod yX1_get, .selects RX1 yX1_get yX1_get, .code yX1_get cX1_get 3 (some .int), .fieldLink RX1 14 "WholeRegistersModel" "digits" "[I"] ++ wsX10)
def wsX1_sign : List Cond := .code yX1_sign cX1_sign 2 (some .int) :: ([.fieldLink RX1 17 "WholeRegistersModel" "code" "I", .fieldLink RX1 7 "WholeRegistersModel" "sign" "[I", .methodLink RX1 37 yX1_isRegister, .static yX1_isRegister, .initialized RX1, .code yX1_isRegister cX1_isRegister 1 (some .boolean)] ++ wsX10)
def wsX1_bits : List Cond := .code yX1_bits cX1_bits 2 (some .int) :: ([.fieldLink RX1 17 "WholeRegistersModel" "code" "I", .methodLink RX1 37 yX1_isRegister, .static yX1_isRegister, .initialized RX1, .code yX1_isRegister cX1_isRegister 1 (some .boolean), .methodLink RX1 64 yX1_bitsOf, .instanceMethod yX1_bitsOf, .selects RX1 yX1_bitsOf yX1_bitsOf, .code yX1_bitsOf cX1_bitsOf 5 (some .int), .methodLink RX1 29 yX1_length, .instanceMethod yX1_length, .selects RX1 yX1_length yX1_length, .code yX1_length cX1_length 3 (some .int), .methodLink RX1 25 yX1_get, .instanceMethod yX1_get, .selects RX1 yX1_get yX1_get, .code yX1_get cX1_get 3 (some .int), .fieldLink RX1 14 "WholeRegistersModel" "digits" "[I"] ++ wsX10)
def wsX1_word : List Cond := .code yX1_word cX1_word 3 (some .int) :: ([.fieldLink RX1 17 "WholeRegistersModel" "code" "I", .methodLink RX1 37 yX1_isRegister, .static yX1_isRegister, .initialized RX1, .code yX1_isRegister cX1_isRegister 1 (some .boolean), .methodLink RX1 25 yX1_get, .instanceMethod yX1_get, .selects RX1 yX1_get yX1_get, .code yX1_get cX1_get 3 (some .int), .fieldLink RX1 14 "WholeRegistersModel" "digits" "[I"] ++ wsX10)
def wsX1_residue : List Cond := .code yX1_residue cX1_residue 6 (some .int) :: ([.fieldLink RX1 17 "WholeRegistersModel" "code" "I", .constantLong RX1 80 (65536), .fieldLink RX1 7 "WholeRegistersModel" "sign" "[I", .methodLink RX1 37 yX1_isRegister, .static yX1_isRegister, .initialized RX1, .code yX1_isRegister cX1_isRegister 1 (some .boolean), .methodLink RX1 29 yX1_length, .instanceMethod yX1_length, .selects RX1 yX1_length yX1_length, .code yX1_length cX1_length 3 (some .int), .methodLink RX1 25 yX1_get, .instanceMethod yX1_get, .selects RX1 yX1_get yX1_get, .code yX1_get cX1_get 3 (some .int), .fieldLink RX1 14 "WholeRegistersModel" "digits" "[I"] ++ wsX10)
def wsJ9_max_7cf53 : List Cond := .code yJ9_max_7cf53 cJ9_max_7cf53 2 (some .int) :: ([])
def wsJ9_min_f86c9 : List Cond := .code yJ9_min_f86c9 cJ9_min_f86c9 4 (some .long) :: ([])
abbrev vwCl : List vw_C := [(RX0, TX0, 6), (RX1, TX1, 3)]
end
section
theorem dJ9_max_7cf53_0 : decode cJ9_max_7cf53 0 = .ok (.iload_n 0, 1) := by decide +kernel
theorem dJ9_max_7cf53_1 : decode cJ9_max_7cf53 1 = .ok (.iload_n 1, 1) := by decide +kernel
theorem dJ9_max_7cf53_2 : decode cJ9_max_7cf53 2 = .ok (.if_icmp .lt 7, 3) := by decide +kernel
theorem dJ9_max_7cf53_5 : decode cJ9_max_7cf53 5 = .ok (.iload_n 0, 1) := by decide +kernel
theorem dJ9_max_7cf53_6 : decode cJ9_max_7cf53 6 = .ok (.goto 4, 3) := by decide +kernel
theorem dJ9_max_7cf53_9 : decode cJ9_max_7cf53 9 = .ok (.iload_n 1, 1) := by decide +kernel
theorem dJ9_max_7cf53_10 : decode cJ9_max_7cf53 10 = .ok (.ireturn, 1) := by decide +kernel
theorem dJ9_min_f86c9_0 : decode cJ9_min_f86c9 0 = .ok (.lload_n 0, 1) := by decide +kernel
theorem dJ9_min_f86c9_1 : decode cJ9_min_f86c9 1 = .ok (.lload_n 2, 1) := by decide +kernel
theorem dJ9_min_f86c9_2 : decode cJ9_min_f86c9 2 = .ok (.lcmp, 1) := by decide +kernel
theorem dJ9_min_f86c9_3 : decode cJ9_min_f86c9 3 = .ok (.ifCond .gt 7, 3) := by decide +kernel
theorem dJ9_min_f86c9_6 : decode cJ9_min_f86c9 6 = .ok (.lload_n 0, 1) := by decide +kernel
theorem dJ9_min_f86c9_7 : decode cJ9_min_f86c9 7 = .ok (.goto 4, 3) := by decide +kernel
theorem dJ9_min_f86c9_10 : decode cJ9_min_f86c9 10 = .ok (.lload_n 2, 1) := by decide +kernel
theorem dJ9_min_f86c9_11 : decode cJ9_min_f86c9 11 = .ok (.lreturn, 1) := by decide +kernel
theorem dJ7_fill_53178_0 : decode cJ7_fill_53178 0 = .ok (.iconst 0, 1) := by decide +kernel
theorem dJ7_fill_53178_1 : decode cJ7_fill_53178 1 = .ok (.istore_n 2, 1) := by decide +kernel
theorem dJ7_fill_53178_2 : decode cJ7_fill_53178 2 = .ok (.aload_n 0, 1) := by decide +kernel
theorem dJ7_fill_53178_3 : decode cJ7_fill_53178 3 = .ok (.arraylength, 1) := by decide +kernel
theorem dJ7_fill_53178_4 : decode cJ7_fill_53178 4 = .ok (.istore_n 3, 1) := by decide +kernel
theorem dJ7_fill_53178_5 : decode cJ7_fill_53178 5 = .ok (.iload_n 2, 1) := by decide +kernel
theorem dJ7_fill_53178_6 : decode cJ7_fill_53178 6 = .ok (.iload_n 3, 1) := by decide +kernel
theorem dJ7_fill_53178_7 : decode cJ7_fill_53178 7 = .ok (.if_icmp .ge 13, 3) := by decide +kernel
theorem dJ7_fill_53178_10 : decode cJ7_fill_53178 10 = .ok (.aload_n 0, 1) := by decide +kernel
theorem dJ7_fill_53178_11 : decode cJ7_fill_53178 11 = .ok (.iload_n 2, 1) := by decide +kernel
theorem dJ7_fill_53178_12 : decode cJ7_fill_53178 12 = .ok (.iload_n 1, 1) := by decide +kernel
theorem dJ7_fill_53178_13 : decode cJ7_fill_53178 13 = .ok (.iastore, 1) := by decide +kernel
theorem dJ7_fill_53178_14 : decode cJ7_fill_53178 14 = .ok (.iinc 2 1, 3) := by decide +kernel
theorem dJ7_fill_53178_17 : decode cJ7_fill_53178 17 = .ok (.goto (-12), 3) := by decide +kernel
theorem dJ7_fill_53178_20 : decode cJ7_fill_53178 20 = .ok (.return_, 1) := by decide +kernel
end
section
theorem dX0_init_0 : decode cX0_init 0 = .ok (.aload_n 0, 1) := by decide +kernel
theorem dX0_init_1 : decode cX0_init 1 = .ok (.invokespecial 3, 3) := by decide +kernel
theorem dX0_init_4 : decode cX0_init 4 = .ok (.aload_n 0, 1) := by decide +kernel
theorem dX0_init_5 : decode cX0_init 5 = .ok (.bipush 12, 2) := by decide +kernel
theorem dX0_init_7 : decode cX0_init 7 = .ok (.sipush 512, 3) := by decide +kernel
theorem dX0_init_10 : decode cX0_init 10 = .ok (.multianewarray 9 2, 4) := by decide +kernel
theorem dX0_init_14 : decode cX0_init 14 = .ok (.putfield 11, 3) := by decide +kernel
theorem dX0_init_17 : decode cX0_init 17 = .ok (.aload_n 0, 1) := by decide +kernel
theorem dX0_init_18 : decode cX0_init 18 = .ok (.bipush 12, 2) := by decide +kernel
theorem dX0_init_20 : decode cX0_init 20 = .ok (.newarray .int, 2) := by decide +kernel
theorem dX0_init_22 : decode cX0_init 22 = .ok (.putfield 14, 3) := by decide +kernel
theorem dX0_init_25 : decode cX0_init 25 = .ok (.aload_n 0, 1) := by decide +kernel
theorem dX0_init_26 : decode cX0_init 26 = .ok (.bipush 12, 2) := by decide +kernel
theorem dX0_init_28 : decode cX0_init 28 = .ok (.newarray .int, 2) := by decide +kernel
theorem dX0_init_30 : decode cX0_init 30 = .ok (.putfield 18, 3) := by decide +kernel
theorem dX0_init_33 : decode cX0_init 33 = .ok (.aload_n 0, 1) := by decide +kernel
theorem dX0_init_34 : decode cX0_init 34 = .ok (.sipush 513, 3) := by decide +kernel
theorem dX0_init_37 : decode cX0_init 37 = .ok (.newarray .int, 2) := by decide +kernel
theorem dX0_init_39 : decode cX0_init 39 = .ok (.putfield 21, 3) := by decide +kernel
theorem dX0_init_42 : decode cX0_init 42 = .ok (.aload_n 0, 1) := by decide +kernel
theorem dX0_init_43 : decode cX0_init 43 = .ok (.sipush 514, 3) := by decide +kernel
theorem dX0_init_46 : decode cX0_init 46 = .ok (.newarray .int, 2) := by decide +kernel
theorem dX0_init_48 : decode cX0_init 48 = .ok (.putfield 24, 3) := by decide +kernel
theorem dX0_init_51 : decode cX0_init 51 = .ok (.aload_n 0, 1) := by decide +kernel
theorem dX0_init_52 : decode cX0_init 52 = .ok (.sipush 513, 3) := by decide +kernel
theorem dX0_init_55 : decode cX0_init 55 = .ok (.newarray .int, 2) := by decide +kernel
theorem dX0_init_57 : decode cX0_init 57 = .ok (.putfield 27, 3) := by decide +kernel
theorem dX0_init_60 : decode cX0_init 60 = .ok (.return_, 1) := by decide +kernel
set_option maxRecDepth 20000 in
theorem ggX0_set_X0_checkRegister : GoodIn wsX0_set wsX0_checkRegister := goodIn_ca (goodIn_r _ [5, 6, 7] (by decide +kernel) (by decide +kernel)) (goodIn_sub (fun _ h => List.mem_cons_of_mem _ (List.mem_append_right _ h)) (by decide +kernel))
set_option maxRecDepth 20000 in
theorem gX0_set_X0_checkRegister : GoodIn wsX0_set (va_wsS RX0 30 yX0_checkRegister wsX0_checkRegister) := goodIn_app (goodIn_of _ (by decide +kernel)) ggX0_set_X0_checkRegister
set_option maxRecDepth 20000 in
theorem ggX0_set_J7_fill_53178 : GoodIn wsX0_set wsJ7_fill_53178 := goodIn_r _ [11] (by decide +kernel) (by decide +kernel)
set_option maxRecDepth 20000 in
theorem gX0_set_J7_fill_53178 : GoodIn wsX0_set (va_wsS RX0 34 yJ7_fill_53178 wsJ7_fill_53178) := goodIn_app (goodIn_of _ (by decide +kernel)) ggX0_set_J7_fill_53178
set_option maxRecDepth 20000 in
theorem ggX0_set_X0_keepResult : GoodIn wsX0_set wsX0_keepResult := goodIn_r _ [15, 1, 16, 17, 18, 19, 20, 21, 22, 23, 24, 25, 26, 27, 28] (by decide +kernel) (by decide +kernel)
set_option maxRecDepth 20000 in
theorem gX0_set_X0_keepResult : GoodIn wsX0_set (wsV RX0 40 RX0 yX0_keepResult wsX0_keepResult) := goodIn_app (goodIn_of _ (by decide +kernel)) ggX0_set_X0_keepResult
theorem dX0_set_0 : decode cX0_set 0 = .ok (.iload_n 1, 1) := by decide +kernel
theorem dX0_set_1 : decode cX0_set 1 = .ok (.invokestatic 30, 3) := by decide +kernel
theorem dX0_set_4 : decode cX0_set 4 = .ok (.lload_n 2, 1) := by decide +kernel
theorem dX0_set_5 : decode cX0_set 5 = .ok (.lconst 0, 1) := by decide +kernel
theorem dX0_set_6 : decode cX0_set 6 = .ok (.lcmp, 1) := by decide +kernel
theorem dX0_set_7 : decode cX0_set 7 = .ok (.ifCond .ge 8, 3) := by decide +kernel
theorem dX0_set_10 : decode cX0_set 10 = .ok (.lload_n 2, 1) := by decide +kernel
theorem dX0_set_11 : decode cX0_set 11 = .ok (.lneg, 1) := by decide +kernel
theorem dX0_set_12 : decode cX0_set 12 = .ok (.goto 4, 3) := by decide +kernel
theorem dX0_set_15 : decode cX0_set 15 = .ok (.lload_n 2, 1) := by decide +kernel
theorem dX0_set_16 : decode cX0_set 16 = .ok (.lstore 4, 2) := by decide +kernel
theorem dX0_set_18 : decode cX0_set 18 = .ok (.aload_n 0, 1) := by decide +kernel
theorem dX0_set_19 : decode cX0_set 19 = .ok (.getfield 21, 3) := by decide +kernel
theorem dX0_set_22 : decode cX0_set 22 = .ok (.iconst 0, 1) := by decide +kernel
theorem dX0_set_23 : decode cX0_set 23 = .ok (.invokestatic 34, 3) := by decide +kernel
theorem dX0_set_26 : decode cX0_set 26 = .ok (.aload_n 0, 1) := by decide +kernel
theorem dX0_set_27 : decode cX0_set 27 = .ok (.getfield 21, 3) := by decide +kernel
theorem dX0_set_30 : decode cX0_set 30 = .ok (.iconst 0, 1) := by decide +kernel
theorem dX0_set_31 : decode cX0_set 31 = .ok (.lload 4, 2) := by decide +kernel
theorem dX0_set_33 : decode cX0_set 33 = .ok (.l2i, 1) := by decide +kernel
theorem dX0_set_34 : decode cX0_set 34 = .ok (.iastore, 1) := by decide +kernel
theorem dX0_set_35 : decode cX0_set 35 = .ok (.aload_n 0, 1) := by decide +kernel
theorem dX0_set_36 : decode cX0_set 36 = .ok (.getfield 21, 3) := by decide +kernel
theorem dX0_set_39 : decode cX0_set 39 = .ok (.iconst 1, 1) := by decide +kernel
theorem dX0_set_40 : decode cX0_set 40 = .ok (.lload 4, 2) := by decide +kernel
theorem dX0_set_42 : decode cX0_set 42 = .ok (.bipush 32, 2) := by decide +kernel
theorem dX0_set_44 : decode cX0_set 44 = .ok (.lushr, 1) := by decide +kernel
theorem dX0_set_45 : decode cX0_set 45 = .ok (.l2i, 1) := by decide +kernel
theorem dX0_set_46 : decode cX0_set 46 = .ok (.iastore, 1) := by decide +kernel
theorem dX0_set_47 : decode cX0_set 47 = .ok (.aload_n 0, 1) := by decide +kernel
theorem dX0_set_48 : decode cX0_set 48 = .ok (.iload_n 1, 1) := by decide +kernel
theorem dX0_set_49 : decode cX0_set 49 = .ok (.lload_n 2, 1) := by decide +kernel
theorem dX0_set_50 : decode cX0_set 50 = .ok (.lconst 0, 1) := by decide +kernel
theorem dX0_set_51 : decode cX0_set 51 = .ok (.lcmp, 1) := by decide +kernel
theorem dX0_set_52 : decode cX0_set 52 = .ok (.ifCond .ge 7, 3) := by decide +kernel
theorem dX0_set_55 : decode cX0_set 55 = .ok (.iconst (-1), 1) := by decide +kernel
theorem dX0_set_56 : decode cX0_set 56 = .ok (.goto 4, 3) := by decide +kernel
theorem dX0_set_59 : decode cX0_set 59 = .ok (.iconst 1, 1) := by decide +kernel
theorem dX0_set_60 : decode cX0_set 60 = .ok (.invokevirtual 40, 3) := by decide +kernel
theorem dX0_set_63 : decode cX0_set 63 = .ok (.return_, 1) := by decide +kernel
set_option maxRecDepth 20000 in
theorem ggX0_append_X0_checkRegister : GoodIn wsX0_append wsX0_checkRegister := goodIn_ca (goodIn_r _ [14, 15, 16] (by decide +kernel) (by decide +kernel)) (goodIn_sub (fun _ h => List.mem_cons_of_mem _ (List.mem_append_right _ h)) (by decide +kernel))
set_option maxRecDepth 20000 in
theorem gX0_append_X0_checkRegister : GoodIn wsX0_append (va_wsS RX0 30 yX0_checkRegister wsX0_checkRegister) := goodIn_app (goodIn_of _ (by decide +kernel)) ggX0_append_X0_checkRegister
set_option maxRecDepth 20000 in
theorem ggX0_append_J7_fill_53178 : GoodIn wsX0_append wsJ7_fill_53178 := goodIn_r _ [20] (by decide +kernel) (by decide +kernel)
set_option maxRecDepth 20000 in
theorem gX0_append_J7_fill_53178 : GoodIn wsX0_append (va_wsS RX0 34 yJ7_fill_53178 wsJ7_fill_53178) := goodIn_app (goodIn_of _ (by decide +kernel)) ggX0_append_J7_fill_53178
set_option maxRecDepth 20000 in
theorem ggX0_append_X0_keepResult : GoodIn wsX0_append wsX0_keepResult := goodIn_r _ [24, 4, 5, 6, 7, 8, 9, 3, 10, 25, 26, 27, 28, 29, 30] (by decide +kernel) (by decide +kernel)
set_option maxRecDepth 20000 in
theorem gX0_append_X0_keepResult : GoodIn wsX0_append (wsV RX0 40 RX0 yX0_keepResult wsX0_keepResult) := goodIn_app (goodIn_of _ (by decide +kernel)) ggX0_append_X0_keepResult
theorem dX0_append_0 : decode cX0_append 0 = .ok (.iload_n 1, 1) := by decide +kernel
theorem dX0_append_1 : decode cX0_append 1 = .ok (.invokestatic 30, 3) := by decide +kernel
theorem dX0_append_4 : decode cX0_append 4 = .ok (.aload_n 0, 1) := by decide +kernel
theorem dX0_append_5 : decode cX0_append 5 = .ok (.getfield 14, 3) := by decide +kernel
theorem dX0_append_8 : decode cX0_append 8 = .ok (.iload_n 1, 1) := by decide +kernel
theorem dX0_append_9 : decode cX0_append 9 = .ok (.iaload, 1) := by decide +kernel
theorem dX0_append_10 : decode cX0_append 10 = .ok (.istore_n 3, 1) := by decide +kernel
theorem dX0_append_11 : decode cX0_append 11 = .ok (.iload_n 3, 1) := by decide +kernel
theorem dX0_append_12 : decode cX0_append 12 = .ok (.sipush 512, 3) := by decide +kernel
theorem dX0_append_15 : decode cX0_append 15 = .ok (.if_icmp .lt 13, 3) := by decide +kernel
theorem dX0_append_18 : decode cX0_append 18 = .ok (.new 44, 3) := by decide +kernel
theorem dX0_append_21 : decode cX0_append 21 = .ok (.dup, 1) := by decide +kernel
theorem dX0_append_22 : decode cX0_append 22 = .ok (.ldc 46, 2) := by decide +kernel
theorem dX0_append_24 : decode cX0_append 24 = .ok (.invokespecial 48, 3) := by decide +kernel
theorem dX0_append_27 : decode cX0_append 27 = .ok (.athrow, 1) := by decide +kernel
theorem dX0_append_28 : decode cX0_append 28 = .ok (.aload_n 0, 1) := by decide +kernel
theorem dX0_append_29 : decode cX0_append 29 = .ok (.getfield 21, 3) := by decide +kernel
theorem dX0_append_32 : decode cX0_append 32 = .ok (.iconst 0, 1) := by decide +kernel
theorem dX0_append_33 : decode cX0_append 33 = .ok (.invokestatic 34, 3) := by decide +kernel
theorem dX0_append_36 : decode cX0_append 36 = .ok (.aload_n 0, 1) := by decide +kernel
theorem dX0_append_37 : decode cX0_append 37 = .ok (.getfield 11, 3) := by decide +kernel
theorem dX0_append_40 : decode cX0_append 40 = .ok (.iload_n 1, 1) := by decide +kernel
theorem dX0_append_41 : decode cX0_append 41 = .ok (.aaload, 1) := by decide +kernel
theorem dX0_append_42 : decode cX0_append 42 = .ok (.iconst 0, 1) := by decide +kernel
theorem dX0_append_43 : decode cX0_append 43 = .ok (.aload_n 0, 1) := by decide +kernel
theorem dX0_append_44 : decode cX0_append 44 = .ok (.getfield 21, 3) := by decide +kernel
theorem dX0_append_47 : decode cX0_append 47 = .ok (.iconst 1, 1) := by decide +kernel
theorem dX0_append_48 : decode cX0_append 48 = .ok (.iload_n 3, 1) := by decide +kernel
theorem dX0_append_49 : decode cX0_append 49 = .ok (.invokestatic 51, 3) := by decide +kernel
theorem dX0_append_52 : decode cX0_append 52 = .ok (.aload_n 0, 1) := by decide +kernel
theorem dX0_append_53 : decode cX0_append 53 = .ok (.getfield 21, 3) := by decide +kernel
theorem dX0_append_56 : decode cX0_append 56 = .ok (.iconst 0, 1) := by decide +kernel
theorem dX0_append_57 : decode cX0_append 57 = .ok (.iload_n 2, 1) := by decide +kernel
theorem dX0_append_58 : decode cX0_append 58 = .ok (.iastore, 1) := by decide +kernel
theorem dX0_append_59 : decode cX0_append 59 = .ok (.aload_n 0, 1) := by decide +kernel
theorem dX0_append_60 : decode cX0_append 60 = .ok (.iload_n 1, 1) := by decide +kernel
theorem dX0_append_61 : decode cX0_append 61 = .ok (.aload_n 0, 1) := by decide +kernel
theorem dX0_append_62 : decode cX0_append 62 = .ok (.getfield 18, 3) := by decide +kernel
theorem dX0_append_65 : decode cX0_append 65 = .ok (.iload_n 1, 1) := by decide +kernel
theorem dX0_append_66 : decode cX0_append 66 = .ok (.iaload, 1) := by decide +kernel
theorem dX0_append_67 : decode cX0_append 67 = .ok (.ifCond .ge 7, 3) := by decide +kernel
theorem dX0_append_70 : decode cX0_append 70 = .ok (.iconst (-1), 1) := by decide +kernel
theorem dX0_append_71 : decode cX0_append 71 = .ok (.goto 4, 3) := by decide +kernel
theorem dX0_append_74 : decode cX0_append 74 = .ok (.iconst 1, 1) := by decide +kernel
theorem dX0_append_75 : decode cX0_append 75 = .ok (.invokevirtual 40, 3) := by decide +kernel
theorem dX0_append_78 : decode cX0_append 78 = .ok (.return_, 1) := by decide +kernel
set_option maxRecDepth 20000 in
theorem ggX0_negate_X0_checkRegister : GoodIn wsX0_negate wsX0_checkRegister := goodIn_ca (goodIn_r _ [5, 6, 7] (by decide +kernel) (by decide +kernel)) (goodIn_sub (fun _ h => List.mem_cons_of_mem _ (List.mem_append_right _ h)) (by decide +kernel))
set_option maxRecDepth 20000 in
theorem gX0_negate_X0_checkRegister : GoodIn wsX0_negate (va_wsS RX0 30 yX0_checkRegister wsX0_checkRegister) := goodIn_app (goodIn_of _ (by decide +kernel)) ggX0_negate_X0_checkRegister
theorem dX0_negate_0 : decode cX0_negate 0 = .ok (.iload_n 1, 1) := by decide +kernel
theorem dX0_negate_1 : decode cX0_negate 1 = .ok (.invokestatic 30, 3) := by decide +kernel
theorem dX0_negate_4 : decode cX0_negate 4 = .ok (.aload_n 0, 1) := by decide +kernel
theorem dX0_negate_5 : decode cX0_negate 5 = .ok (.getfield 18, 3) := by decide +kernel
theorem dX0_negate_8 : decode cX0_negate 8 = .ok (.iload_n 1, 1) := by decide +kernel
theorem dX0_negate_9 : decode cX0_negate 9 = .ok (.aload_n 0, 1) := by decide +kernel
theorem dX0_negate_10 : decode cX0_negate 10 = .ok (.getfield 18, 3) := by decide +kernel
theorem dX0_negate_13 : decode cX0_negate 13 = .ok (.iload_n 1, 1) := by decide +kernel
theorem dX0_negate_14 : decode cX0_negate 14 = .ok (.iaload, 1) := by decide +kernel
theorem dX0_negate_15 : decode cX0_negate 15 = .ok (.ineg, 1) := by decide +kernel
theorem dX0_negate_16 : decode cX0_negate 16 = .ok (.iastore, 1) := by decide +kernel
theorem dX0_negate_17 : decode cX0_negate 17 = .ok (.return_, 1) := by decide +kernel
set_option maxRecDepth 20000 in
theorem ggX0_copy_X0_checkRegister : GoodIn wsX0_copy wsX0_checkRegister := goodIn_ca (goodIn_r _ [11, 12, 13] (by decide +kernel) (by decide +kernel)) (goodIn_sub (fun _ h => List.mem_cons_of_mem _ (List.mem_append_right _ h)) (by decide +kernel))
set_option maxRecDepth 20000 in
theorem gX0_copy_X0_checkRegister : GoodIn wsX0_copy (va_wsS RX0 30 yX0_checkRegister wsX0_checkRegister) := goodIn_app (goodIn_of _ (by decide +kernel)) ggX0_copy_X0_checkRegister
theorem dX0_copy_0 : decode cX0_copy 0 = .ok (.iload_n 1, 1) := by decide +kernel
theorem dX0_copy_1 : decode cX0_copy 1 = .ok (.invokestatic 30, 3) := by decide +kernel
theorem dX0_copy_4 : decode cX0_copy 4 = .ok (.iload_n 2, 1) := by decide +kernel
theorem dX0_copy_5 : decode cX0_copy 5 = .ok (.invokestatic 30, 3) := by decide +kernel
theorem dX0_copy_8 : decode cX0_copy 8 = .ok (.aload_n 0, 1) := by decide +kernel
theorem dX0_copy_9 : decode cX0_copy 9 = .ok (.getfield 11, 3) := by decide +kernel
theorem dX0_copy_12 : decode cX0_copy 12 = .ok (.iload_n 2, 1) := by decide +kernel
theorem dX0_copy_13 : decode cX0_copy 13 = .ok (.aaload, 1) := by decide +kernel
theorem dX0_copy_14 : decode cX0_copy 14 = .ok (.iconst 0, 1) := by decide +kernel
theorem dX0_copy_15 : decode cX0_copy 15 = .ok (.aload_n 0, 1) := by decide +kernel
theorem dX0_copy_16 : decode cX0_copy 16 = .ok (.getfield 11, 3) := by decide +kernel
theorem dX0_copy_19 : decode cX0_copy 19 = .ok (.iload_n 1, 1) := by decide +kernel
theorem dX0_copy_20 : decode cX0_copy 20 = .ok (.aaload, 1) := by decide +kernel
theorem dX0_copy_21 : decode cX0_copy 21 = .ok (.iconst 0, 1) := by decide +kernel
theorem dX0_copy_22 : decode cX0_copy 22 = .ok (.sipush 512, 3) := by decide +kernel
theorem dX0_copy_25 : decode cX0_copy 25 = .ok (.invokestatic 51, 3) := by decide +kernel
theorem dX0_copy_28 : decode cX0_copy 28 = .ok (.aload_n 0, 1) := by decide +kernel
theorem dX0_copy_29 : decode cX0_copy 29 = .ok (.getfield 14, 3) := by decide +kernel
theorem dX0_copy_32 : decode cX0_copy 32 = .ok (.iload_n 1, 1) := by decide +kernel
theorem dX0_copy_33 : decode cX0_copy 33 = .ok (.aload_n 0, 1) := by decide +kernel
theorem dX0_copy_34 : decode cX0_copy 34 = .ok (.getfield 14, 3) := by decide +kernel
theorem dX0_copy_37 : decode cX0_copy 37 = .ok (.iload_n 2, 1) := by decide +kernel
theorem dX0_copy_38 : decode cX0_copy 38 = .ok (.iaload, 1) := by decide +kernel
theorem dX0_copy_39 : decode cX0_copy 39 = .ok (.iastore, 1) := by decide +kernel
theorem dX0_copy_40 : decode cX0_copy 40 = .ok (.aload_n 0, 1) := by decide +kernel
theorem dX0_copy_41 : decode cX0_copy 41 = .ok (.getfield 18, 3) := by decide +kernel
theorem dX0_copy_44 : decode cX0_copy 44 = .ok (.iload_n 1, 1) := by decide +kernel
theorem dX0_copy_45 : decode cX0_copy 45 = .ok (.aload_n 0, 1) := by decide +kernel
theorem dX0_copy_46 : decode cX0_copy 46 = .ok (.getfield 18, 3) := by decide +kernel
theorem dX0_copy_49 : decode cX0_copy 49 = .ok (.iload_n 2, 1) := by decide +kernel
theorem dX0_copy_50 : decode cX0_copy 50 = .ok (.iaload, 1) := by decide +kernel
theorem dX0_copy_51 : decode cX0_copy 51 = .ok (.iastore, 1) := by decide +kernel
theorem dX0_copy_52 : decode cX0_copy 52 = .ok (.return_, 1) := by decide +kernel
set_option maxRecDepth 20000 in
theorem ggX0_add_X0_checkRegister : GoodIn wsX0_add wsX0_checkRegister := goodIn_ca (goodIn_r _ [5, 6, 7] (by decide +kernel) (by decide +kernel)) (goodIn_sub (fun _ h => List.mem_cons_of_mem _ (List.mem_append_left _ (List.mem_append_right _ h))) (by decide +kernel))
set_option maxRecDepth 20000 in
theorem gX0_add_X0_checkRegister : GoodIn wsX0_add (va_wsS RX0 30 yX0_checkRegister wsX0_checkRegister) := goodIn_app (goodIn_of _ (by decide +kernel)) ggX0_add_X0_checkRegister
set_option maxRecDepth 20000 in
theorem ggX0_add_X0_putSum : GoodIn wsX0_add wsX0_putSum := goodIn_ca (goodIn_r _ [11, 1, 12, 13, 14, 4, 15, 16, 17, 18, 19, 20, 21, 22, 23, 24, 25, 26, 27, 28, 29, 30, 31, 32, 33, 34, 35, 36, 37, 38, 39, 40, 41, 42, 43, 44, 45, 46, 47, 48, 49, 50, 51, 52, 53, 54, 55] (by decide +kernel) (by decide +kernel)) (goodIn_sub (fun _ h => List.mem_cons_of_mem _ (List.mem_append_right _ h)) (by decide +kernel))
set_option maxRecDepth 20000 in
theorem gX0_add_X0_putSum : GoodIn wsX0_add (wsV RX0 57 RX0 yX0_putSum wsX0_putSum) := goodIn_app (goodIn_of _ (by decide +kernel)) ggX0_add_X0_putSum
theorem dX0_add_0 : decode cX0_add 0 = .ok (.iload_n 1, 1) := by decide +kernel
theorem dX0_add_1 : decode cX0_add 1 = .ok (.invokestatic 30, 3) := by decide +kernel
theorem dX0_add_4 : decode cX0_add 4 = .ok (.iload_n 2, 1) := by decide +kernel
theorem dX0_add_5 : decode cX0_add 5 = .ok (.invokestatic 30, 3) := by decide +kernel
theorem dX0_add_8 : decode cX0_add 8 = .ok (.iload_n 3, 1) := by decide +kernel
theorem dX0_add_9 : decode cX0_add 9 = .ok (.invokestatic 30, 3) := by decide +kernel
theorem dX0_add_12 : decode cX0_add 12 = .ok (.aload_n 0, 1) := by decide +kernel
theorem dX0_add_13 : decode cX0_add 13 = .ok (.iload_n 1, 1) := by decide +kernel
theorem dX0_add_14 : decode cX0_add 14 = .ok (.iload_n 2, 1) := by decide +kernel
theorem dX0_add_15 : decode cX0_add 15 = .ok (.iload_n 3, 1) := by decide +kernel
theorem dX0_add_16 : decode cX0_add 16 = .ok (.aload_n 0, 1) := by decide +kernel
theorem dX0_add_17 : decode cX0_add 17 = .ok (.getfield 18, 3) := by decide +kernel
theorem dX0_add_20 : decode cX0_add 20 = .ok (.iload_n 3, 1) := by decide +kernel
theorem dX0_add_21 : decode cX0_add 21 = .ok (.iaload, 1) := by decide +kernel
theorem dX0_add_22 : decode cX0_add 22 = .ok (.invokevirtual 57, 3) := by decide +kernel
theorem dX0_add_25 : decode cX0_add 25 = .ok (.return_, 1) := by decide +kernel
set_option maxRecDepth 20000 in
theorem ggX0_subtract_X0_checkRegister : GoodIn wsX0_subtract wsX0_checkRegister := goodIn_ca (goodIn_r _ [5, 6, 7] (by decide +kernel) (by decide +kernel)) (goodIn_sub (fun _ h => List.mem_cons_of_mem _ (List.mem_append_left _ (List.mem_append_right _ h))) (by decide +kernel))
set_option maxRecDepth 20000 in
theorem gX0_subtract_X0_checkRegister : GoodIn wsX0_subtract (va_wsS RX0 30 yX0_checkRegister wsX0_checkRegister) := goodIn_app (goodIn_of _ (by decide +kernel)) ggX0_subtract_X0_checkRegister
set_option maxRecDepth 20000 in
theorem ggX0_subtract_X0_putSum : GoodIn wsX0_subtract wsX0_putSum := goodIn_ca (goodIn_r _ [11, 1, 12, 13, 14, 4, 15, 16, 17, 18, 19, 20, 21, 22, 23, 24, 25, 26, 27, 28, 29, 30, 31, 32, 33, 34, 35, 36, 37, 38, 39, 40, 41, 42, 43, 44, 45, 46, 47, 48, 49, 50, 51, 52, 53, 54, 55] (by decide +kernel) (by decide +kernel)) (goodIn_sub (fun _ h => List.mem_cons_of_mem _ (List.mem_append_right _ h)) (by decide +kernel))
set_option maxRecDepth 20000 in
theorem gX0_subtract_X0_putSum : GoodIn wsX0_subtract (wsV RX0 57 RX0 yX0_putSum wsX0_putSum) := goodIn_app (goodIn_of _ (by decide +kernel)) ggX0_subtract_X0_putSum
theorem dX0_subtract_0 : decode cX0_subtract 0 = .ok (.iload_n 1, 1) := by decide +kernel
theorem dX0_subtract_1 : decode cX0_subtract 1 = .ok (.invokestatic 30, 3) := by decide +kernel
theorem dX0_subtract_4 : decode cX0_subtract 4 = .ok (.iload_n 2, 1) := by decide +kernel
theorem dX0_subtract_5 : decode cX0_subtract 5 = .ok (.invokestatic 30, 3) := by decide +kernel
theorem dX0_subtract_8 : decode cX0_subtract 8 = .ok (.iload_n 3, 1) := by decide +kernel
theorem dX0_subtract_9 : decode cX0_subtract 9 = .ok (.invokestatic 30, 3) := by decide +kernel
theorem dX0_subtract_12 : decode cX0_subtract 12 = .ok (.aload_n 0, 1) := by decide +kernel
theorem dX0_subtract_13 : decode cX0_subtract 13 = .ok (.iload_n 1, 1) := by decide +kernel
theorem dX0_subtract_14 : decode cX0_subtract 14 = .ok (.iload_n 2, 1) := by decide +kernel
theorem dX0_subtract_15 : decode cX0_subtract 15 = .ok (.iload_n 3, 1) := by decide +kernel
theorem dX0_subtract_16 : decode cX0_subtract 16 = .ok (.aload_n 0, 1) := by decide +kernel
theorem dX0_subtract_17 : decode cX0_subtract 17 = .ok (.getfield 18, 3) := by decide +kernel
theorem dX0_subtract_20 : decode cX0_subtract 20 = .ok (.iload_n 3, 1) := by decide +kernel
theorem dX0_subtract_21 : decode cX0_subtract 21 = .ok (.iaload, 1) := by decide +kernel
theorem dX0_subtract_22 : decode cX0_subtract 22 = .ok (.ineg, 1) := by decide +kernel
theorem dX0_subtract_23 : decode cX0_subtract 23 = .ok (.invokevirtual 57, 3) := by decide +kernel
theorem dX0_subtract_26 : decode cX0_subtract 26 = .ok (.return_, 1) := by decide +kernel
set_option maxRecDepth 20000 in
theorem ggX0_multiply_X0_checkRegister : GoodIn wsX0_multiply wsX0_checkRegister := goodIn_ca (goodIn_r _ [8, 9, 10] (by decide +kernel) (by decide +kernel)) (goodIn_sub (fun _ h => List.mem_cons_of_mem _ (List.mem_append_right _ h)) (by decide +kernel))
set_option maxRecDepth 20000 in
theorem gX0_multiply_X0_checkRegister : GoodIn wsX0_multiply (va_wsS RX0 30 yX0_checkRegister wsX0_checkRegister) := goodIn_app (goodIn_of _ (by decide +kernel)) ggX0_multiply_X0_checkRegister
set_option maxRecDepth 20000 in
theorem ggX0_multiply_X0_multiplySizes : GoodIn wsX0_multiply wsX0_multiplySizes := goodIn_r _ [14, 15, 3, 16, 17, 18, 19, 20, 21, 22, 23, 24, 7, 25, 38, 39, 40, 41, 42, 43] (by decide +kernel) (by decide +kernel)
set_option maxRecDepth 20000 in
theorem gX0_multiply_X0_multiplySizes : GoodIn wsX0_multiply (wsV RX0 61 RX0 yX0_multiplySizes wsX0_multiplySizes) := goodIn_app (goodIn_of _ (by decide +kernel)) ggX0_multiply_X0_multiplySizes
set_option maxRecDepth 20000 in
theorem ggX0_multiply_X0_checkResultFits : GoodIn wsX0_multiply wsX0_checkResultFits := goodIn_ca (goodIn_r _ [29, 1, 2, 15, 38, 39, 40, 41, 42, 43] (by decide +kernel) (by decide +kernel)) (goodIn_sub (fun _ h => List.mem_cons_of_mem _ (List.mem_append_left _ (List.mem_append_right _ h))) (by decide +kernel))
set_option maxRecDepth 20000 in
theorem gX0_multiply_X0_checkResultFits : GoodIn wsX0_multiply (wsV RX0 64 RX0 yX0_checkResultFits wsX0_checkResultFits) := goodIn_app (goodIn_of _ (by decide +kernel)) ggX0_multiply_X0_checkResultFits
set_option maxRecDepth 20000 in
theorem ggX0_multiply_X0_keepResult : GoodIn wsX0_multiply wsX0_keepResult := goodIn_r _ [33, 15, 16, 34, 35, 36, 37, 3, 4, 38, 39, 40, 41, 42, 43] (by decide +kernel) (by decide +kernel)
set_option maxRecDepth 20000 in
theorem gX0_multiply_X0_keepResult : GoodIn wsX0_multiply (wsV RX0 40 RX0 yX0_keepResult wsX0_keepResult) := goodIn_app (goodIn_of _ (by decide +kernel)) ggX0_multiply_X0_keepResult
theorem dX0_multiply_0 : decode cX0_multiply 0 = .ok (.iload_n 1, 1) := by decide +kernel
theorem dX0_multiply_1 : decode cX0_multiply 1 = .ok (.invokestatic 30, 3) := by decide +kernel
theorem dX0_multiply_4 : decode cX0_multiply 4 = .ok (.iload_n 2, 1) := by decide +kernel
theorem dX0_multiply_5 : decode cX0_multiply 5 = .ok (.invokestatic 30, 3) := by decide +kernel
theorem dX0_multiply_8 : decode cX0_multiply 8 = .ok (.iload_n 3, 1) := by decide +kernel
theorem dX0_multiply_9 : decode cX0_multiply 9 = .ok (.invokestatic 30, 3) := by decide +kernel
theorem dX0_multiply_12 : decode cX0_multiply 12 = .ok (.aload_n 0, 1) := by decide +kernel
theorem dX0_multiply_13 : decode cX0_multiply 13 = .ok (.getfield 14, 3) := by decide +kernel
theorem dX0_multiply_16 : decode cX0_multiply 16 = .ok (.iload_n 2, 1) := by decide +kernel
theorem dX0_multiply_17 : decode cX0_multiply 17 = .ok (.iaload, 1) := by decide +kernel
theorem dX0_multiply_18 : decode cX0_multiply 18 = .ok (.aload_n 0, 1) := by decide +kernel
theorem dX0_multiply_19 : decode cX0_multiply 19 = .ok (.getfield 14, 3) := by decide +kernel
theorem dX0_multiply_22 : decode cX0_multiply 22 = .ok (.iload_n 3, 1) := by decide +kernel
theorem dX0_multiply_23 : decode cX0_multiply 23 = .ok (.iaload, 1) := by decide +kernel
theorem dX0_multiply_24 : decode cX0_multiply 24 = .ok (.iadd, 1) := by decide +kernel
theorem dX0_multiply_25 : decode cX0_multiply 25 = .ok (.sipush 513, 3) := by decide +kernel
theorem dX0_multiply_28 : decode cX0_multiply 28 = .ok (.if_icmp .le 13, 3) := by decide +kernel
theorem dX0_multiply_31 : decode cX0_multiply 31 = .ok (.new 44, 3) := by decide +kernel
theorem dX0_multiply_34 : decode cX0_multiply 34 = .ok (.dup, 1) := by decide +kernel
theorem dX0_multiply_35 : decode cX0_multiply 35 = .ok (.ldc 46, 2) := by decide +kernel
theorem dX0_multiply_37 : decode cX0_multiply 37 = .ok (.invokespecial 48, 3) := by decide +kernel
theorem dX0_multiply_40 : decode cX0_multiply 40 = .ok (.athrow, 1) := by decide +kernel
theorem dX0_multiply_41 : decode cX0_multiply 41 = .ok (.aload_n 0, 1) := by decide +kernel
theorem dX0_multiply_42 : decode cX0_multiply 42 = .ok (.iload_n 2, 1) := by decide +kernel
theorem dX0_multiply_43 : decode cX0_multiply 43 = .ok (.iload_n 3, 1) := by decide +kernel
theorem dX0_multiply_44 : decode cX0_multiply 44 = .ok (.invokevirtual 61, 3) := by decide +kernel
theorem dX0_multiply_47 : decode cX0_multiply 47 = .ok (.aload_n 0, 1) := by decide +kernel
theorem dX0_multiply_48 : decode cX0_multiply 48 = .ok (.invokevirtual 64, 3) := by decide +kernel
theorem dX0_multiply_51 : decode cX0_multiply 51 = .ok (.aload_n 0, 1) := by decide +kernel
theorem dX0_multiply_52 : decode cX0_multiply 52 = .ok (.iload_n 1, 1) := by decide +kernel
theorem dX0_multiply_53 : decode cX0_multiply 53 = .ok (.aload_n 0, 1) := by decide +kernel
theorem dX0_multiply_54 : decode cX0_multiply 54 = .ok (.getfield 18, 3) := by decide +kernel
theorem dX0_multiply_57 : decode cX0_multiply 57 = .ok (.iload_n 2, 1) := by decide +kernel
theorem dX0_multiply_58 : decode cX0_multiply 58 = .ok (.iaload, 1) := by decide +kernel
theorem dX0_multiply_59 : decode cX0_multiply 59 = .ok (.aload_n 0, 1) := by decide +kernel
theorem dX0_multiply_60 : decode cX0_multiply 60 = .ok (.getfield 18, 3) := by decide +kernel
theorem dX0_multiply_63 : decode cX0_multiply 63 = .ok (.iload_n 3, 1) := by decide +kernel
theorem dX0_multiply_64 : decode cX0_multiply 64 = .ok (.iaload, 1) := by decide +kernel
theorem dX0_multiply_65 : decode cX0_multiply 65 = .ok (.imul, 1) := by decide +kernel
theorem dX0_multiply_66 : decode cX0_multiply 66 = .ok (.invokevirtual 40, 3) := by decide +kernel
theorem dX0_multiply_69 : decode cX0_multiply 69 = .ok (.return_, 1) := by decide +kernel
set_option maxRecDepth 20000 in
theorem ggX0_divide_X0_checkRegister : GoodIn wsX0_divide wsX0_checkRegister := goodIn_ca (goodIn_r _ [9, 10, 11] (by decide +kernel) (by decide +kernel)) (goodIn_sub (fun _ h => List.mem_cons_of_mem _ (List.mem_append_right _ h)) (by decide +kernel))
set_option maxRecDepth 20000 in
theorem gX0_divide_X0_checkRegister : GoodIn wsX0_divide (va_wsS RX0 30 yX0_checkRegister wsX0_checkRegister) := goodIn_app (goodIn_of _ (by decide +kernel)) ggX0_divide_X0_checkRegister
set_option maxRecDepth 20000 in
theorem ggX0_divide_X0_bitsOf : GoodIn wsX0_divide wsX0_bitsOf := goodIn_r _ [15, 4, 16, 17, 18, 8, 19, 74, 75, 76, 77, 78, 79] (by decide +kernel) (by decide +kernel)
set_option maxRecDepth 20000 in
theorem gX0_divide_X0_bitsOf : GoodIn wsX0_divide (wsV RX0 74 RX0 yX0_bitsOf wsX0_bitsOf) := goodIn_app (goodIn_of _ (by decide +kernel)) ggX0_divide_X0_bitsOf
set_option maxRecDepth 20000 in
theorem ggX0_divide_X0_divideSizes : GoodIn wsX0_divide wsX0_divideSizes := goodIn_r _ [23, 5, 24, 25, 4, 26, 27, 28, 8, 29, 16, 30, 31, 32, 33, 34, 35, 36, 37, 38, 39, 40, 41, 42, 43, 44, 45, 46, 47, 48, 49, 50, 51, 52, 53, 54, 55, 56, 57, 58, 59, 60, 61, 74, 75, 76, 77, 78, 79] (by decide +kernel) (by decide +kernel)
set_option maxRecDepth 20000 in
theorem gX0_divide_X0_divideSizes : GoodIn wsX0_divide (wsV RX0 78 RX0 yX0_divideSizes wsX0_divideSizes) := goodIn_app (goodIn_of _ (by decide +kernel)) ggX0_divide_X0_divideSizes
set_option maxRecDepth 20000 in
theorem ggX0_divide_X0_keepResult : GoodIn wsX0_divide wsX0_keepResult := goodIn_r _ [65, 25, 16, 66, 67, 68, 69, 4, 3, 74, 75, 76, 77, 78, 79] (by decide +kernel) (by decide +kernel)
set_option maxRecDepth 20000 in
theorem gX0_divide_X0_keepResult : GoodIn wsX0_divide (wsV RX0 40 RX0 yX0_keepResult wsX0_keepResult) := goodIn_app (goodIn_of _ (by decide +kernel)) ggX0_divide_X0_keepResult
set_option maxRecDepth 20000 in
theorem ggX0_divide_X0_moveDown : GoodIn wsX0_divide wsX0_moveDown := goodIn_r _ [73, 25, 31, 32, 33, 34, 47, 48, 8, 49, 30, 74, 75, 76, 77, 78, 79] (by decide +kernel) (by decide +kernel)
set_option maxRecDepth 20000 in
theorem gX0_divide_X0_moveDown : GoodIn wsX0_divide (wsV RX0 82 RX0 yX0_moveDown wsX0_moveDown) := goodIn_app (goodIn_of _ (by decide +kernel)) ggX0_divide_X0_moveDown
theorem dX0_divide_0 : decode cX0_divide 0 = .ok (.iload_n 1, 1) := by decide +kernel
theorem dX0_divide_1 : decode cX0_divide 1 = .ok (.invokestatic 30, 3) := by decide +kernel
theorem dX0_divide_4 : decode cX0_divide 4 = .ok (.iload_n 2, 1) := by decide +kernel
theorem dX0_divide_5 : decode cX0_divide 5 = .ok (.invokestatic 30, 3) := by decide +kernel
theorem dX0_divide_8 : decode cX0_divide 8 = .ok (.iload_n 3, 1) := by decide +kernel
theorem dX0_divide_9 : decode cX0_divide 9 = .ok (.invokestatic 30, 3) := by decide +kernel
theorem dX0_divide_12 : decode cX0_divide 12 = .ok (.iload 4, 2) := by decide +kernel
theorem dX0_divide_14 : decode cX0_divide 14 = .ok (.invokestatic 30, 3) := by decide +kernel
theorem dX0_divide_17 : decode cX0_divide 17 = .ok (.iload_n 1, 1) := by decide +kernel
theorem dX0_divide_18 : decode cX0_divide 18 = .ok (.iload_n 2, 1) := by decide +kernel
theorem dX0_divide_19 : decode cX0_divide 19 = .ok (.if_icmp .ne 13, 3) := by decide +kernel
theorem dX0_divide_22 : decode cX0_divide 22 = .ok (.new 67, 3) := by decide +kernel
theorem dX0_divide_25 : decode cX0_divide 25 = .ok (.dup, 1) := by decide +kernel
theorem dX0_divide_26 : decode cX0_divide 26 = .ok (.ldc 69, 2) := by decide +kernel
theorem dX0_divide_28 : decode cX0_divide 28 = .ok (.invokespecial 71, 3) := by decide +kernel
theorem dX0_divide_31 : decode cX0_divide 31 = .ok (.athrow, 1) := by decide +kernel
theorem dX0_divide_32 : decode cX0_divide 32 = .ok (.aload_n 0, 1) := by decide +kernel
theorem dX0_divide_33 : decode cX0_divide 33 = .ok (.getfield 18, 3) := by decide +kernel
theorem dX0_divide_36 : decode cX0_divide 36 = .ok (.iload 4, 2) := by decide +kernel
theorem dX0_divide_38 : decode cX0_divide 38 = .ok (.iaload, 1) := by decide +kernel
theorem dX0_divide_39 : decode cX0_divide 39 = .ok (.ifCond .ne 13, 3) := by decide +kernel
theorem dX0_divide_42 : decode cX0_divide 42 = .ok (.new 67, 3) := by decide +kernel
theorem dX0_divide_45 : decode cX0_divide 45 = .ok (.dup, 1) := by decide +kernel
theorem dX0_divide_46 : decode cX0_divide 46 = .ok (.ldc 72, 2) := by decide +kernel
theorem dX0_divide_48 : decode cX0_divide 48 = .ok (.invokespecial 71, 3) := by decide +kernel
theorem dX0_divide_51 : decode cX0_divide 51 = .ok (.athrow, 1) := by decide +kernel
theorem dX0_divide_52 : decode cX0_divide 52 = .ok (.aload_n 0, 1) := by decide +kernel
theorem dX0_divide_53 : decode cX0_divide 53 = .ok (.getfield 18, 3) := by decide +kernel
theorem dX0_divide_56 : decode cX0_divide 56 = .ok (.iload_n 3, 1) := by decide +kernel
theorem dX0_divide_57 : decode cX0_divide 57 = .ok (.iaload, 1) := by decide +kernel
theorem dX0_divide_58 : decode cX0_divide 58 = .ok (.aload_n 0, 1) := by decide +kernel
theorem dX0_divide_59 : decode cX0_divide 59 = .ok (.getfield 18, 3) := by decide +kernel
theorem dX0_divide_62 : decode cX0_divide 62 = .ok (.iload 4, 2) := by decide +kernel
theorem dX0_divide_64 : decode cX0_divide 64 = .ok (.iaload, 1) := by decide +kernel
theorem dX0_divide_65 : decode cX0_divide 65 = .ok (.imul, 1) := by decide +kernel
theorem dX0_divide_66 : decode cX0_divide 66 = .ok (.istore 5, 2) := by decide +kernel
theorem dX0_divide_68 : decode cX0_divide 68 = .ok (.aload_n 0, 1) := by decide +kernel
theorem dX0_divide_69 : decode cX0_divide 69 = .ok (.getfield 18, 3) := by decide +kernel
theorem dX0_divide_72 : decode cX0_divide 72 = .ok (.iload_n 3, 1) := by decide +kernel
theorem dX0_divide_73 : decode cX0_divide 73 = .ok (.iaload, 1) := by decide +kernel
theorem dX0_divide_74 : decode cX0_divide 74 = .ok (.istore 6, 2) := by decide +kernel
theorem dX0_divide_76 : decode cX0_divide 76 = .ok (.aload_n 0, 1) := by decide +kernel
theorem dX0_divide_77 : decode cX0_divide 77 = .ok (.getfield 14, 3) := by decide +kernel
theorem dX0_divide_80 : decode cX0_divide 80 = .ok (.iload 4, 2) := by decide +kernel
theorem dX0_divide_82 : decode cX0_divide 82 = .ok (.iaload, 1) := by decide +kernel
theorem dX0_divide_83 : decode cX0_divide 83 = .ok (.istore 7, 2) := by decide +kernel
theorem dX0_divide_85 : decode cX0_divide 85 = .ok (.iload 7, 2) := by decide +kernel
theorem dX0_divide_87 : decode cX0_divide 87 = .ok (.bipush 32, 2) := by decide +kernel
theorem dX0_divide_89 : decode cX0_divide 89 = .ok (.imul, 1) := by decide +kernel
theorem dX0_divide_90 : decode cX0_divide 90 = .ok (.aload_n 0, 1) := by decide +kernel
theorem dX0_divide_91 : decode cX0_divide 91 = .ok (.iload 4, 2) := by decide +kernel
theorem dX0_divide_93 : decode cX0_divide 93 = .ok (.invokevirtual 74, 3) := by decide +kernel
theorem dX0_divide_96 : decode cX0_divide 96 = .ok (.isub, 1) := by decide +kernel
theorem dX0_divide_97 : decode cX0_divide 97 = .ok (.istore 8, 2) := by decide +kernel
theorem dX0_divide_99 : decode cX0_divide 99 = .ok (.aload_n 0, 1) := by decide +kernel
theorem dX0_divide_100 : decode cX0_divide 100 = .ok (.iload_n 3, 1) := by decide +kernel
theorem dX0_divide_101 : decode cX0_divide 101 = .ok (.iload 4, 2) := by decide +kernel
theorem dX0_divide_103 : decode cX0_divide 103 = .ok (.iload 8, 2) := by decide +kernel
theorem dX0_divide_105 : decode cX0_divide 105 = .ok (.invokevirtual 78, 3) := by decide +kernel
theorem dX0_divide_108 : decode cX0_divide 108 = .ok (.aload_n 0, 1) := by decide +kernel
theorem dX0_divide_109 : decode cX0_divide 109 = .ok (.iload_n 1, 1) := by decide +kernel
theorem dX0_divide_110 : decode cX0_divide 110 = .ok (.iload 5, 2) := by decide +kernel
theorem dX0_divide_112 : decode cX0_divide 112 = .ok (.invokevirtual 40, 3) := by decide +kernel
theorem dX0_divide_115 : decode cX0_divide 115 = .ok (.aload_n 0, 1) := by decide +kernel
theorem dX0_divide_116 : decode cX0_divide 116 = .ok (.aload_n 0, 1) := by decide +kernel
theorem dX0_divide_117 : decode cX0_divide 117 = .ok (.getfield 24, 3) := by decide +kernel
theorem dX0_divide_120 : decode cX0_divide 120 = .ok (.iload 7, 2) := by decide +kernel
theorem dX0_divide_122 : decode cX0_divide 122 = .ok (.iload 8, 2) := by decide +kernel
theorem dX0_divide_124 : decode cX0_divide 124 = .ok (.invokevirtual 82, 3) := by decide +kernel
theorem dX0_divide_127 : decode cX0_divide 127 = .ok (.aload_n 0, 1) := by decide +kernel
theorem dX0_divide_128 : decode cX0_divide 128 = .ok (.iload_n 2, 1) := by decide +kernel
theorem dX0_divide_129 : decode cX0_divide 129 = .ok (.iload 6, 2) := by decide +kernel
theorem dX0_divide_131 : decode cX0_divide 131 = .ok (.invokevirtual 40, 3) := by decide +kernel
theorem dX0_divide_134 : decode cX0_divide 134 = .ok (.return_, 1) := by decide +kernel
set_option maxRecDepth 20000 in
theorem ggX0_root_X0_checkRegister : GoodIn wsX0_root wsX0_checkRegister := goodIn_ca (goodIn_r _ [8, 9, 10] (by decide +kernel) (by decide +kernel)) (goodIn_sub (fun _ h => List.mem_cons_of_mem _ (List.mem_append_right _ h)) (by decide +kernel))
set_option maxRecDepth 20000 in
theorem gX0_root_X0_checkRegister : GoodIn wsX0_root (va_wsS RX0 30 yX0_checkRegister wsX0_checkRegister) := goodIn_app (goodIn_of _ (by decide +kernel)) ggX0_root_X0_checkRegister
set_option maxRecDepth 20000 in
theorem ggX0_root_J7_fill_53178 : GoodIn wsX0_root wsJ7_fill_53178 := goodIn_r _ [14] (by decide +kernel) (by decide +kernel)
set_option maxRecDepth 20000 in
theorem gX0_root_J7_fill_53178 : GoodIn wsX0_root (va_wsS RX0 34 yJ7_fill_53178 wsJ7_fill_53178) := goodIn_app (goodIn_of _ (by decide +kernel)) ggX0_root_J7_fill_53178
set_option maxRecDepth 20000 in
theorem ggX0_root_X0_takeRootOfSize : GoodIn wsX0_root wsX0_takeRootOfSize := goodIn_r _ [18, 19, 20, 21, 22, 23, 7, 24, 25, 26, 27, 28, 29, 30, 31, 32, 33, 34, 11, 12, 13, 14, 35, 36, 37, 38, 39, 40, 41, 42, 43, 44, 45, 46, 47, 48, 49, 50, 51, 52, 53, 54, 55, 56, 57, 58, 59, 60, 61, 62, 63, 64, 65, 66, 67, 68, 69, 70, 71, 72, 4, 81, 82, 83, 84, 85, 86] (by decide +kernel) (by decide +kernel)
set_option maxRecDepth 20000 in
theorem gX0_root_X0_takeRootOfSize : GoodIn wsX0_root (wsV RX0 88 RX0 yX0_takeRootOfSize wsX0_takeRootOfSize) := goodIn_app (goodIn_of _ (by decide +kernel)) ggX0_root_X0_takeRootOfSize
set_option maxRecDepth 20000 in
theorem ggX0_root_X0_keepResult : GoodIn wsX0_root wsX0_keepResult := goodIn_r _ [76, 4, 26, 77, 78, 79, 80, 25, 3, 81, 82, 83, 84, 85, 86] (by decide +kernel) (by decide +kernel)
set_option maxRecDepth 20000 in
theorem gX0_root_X0_keepResult : GoodIn wsX0_root (wsV RX0 40 RX0 yX0_keepResult wsX0_keepResult) := goodIn_app (goodIn_of _ (by decide +kernel)) ggX0_root_X0_keepResult
theorem dX0_root_0 : decode cX0_root 0 = .ok (.iload_n 1, 1) := by decide +kernel
theorem dX0_root_1 : decode cX0_root 1 = .ok (.invokestatic 30, 3) := by decide +kernel
theorem dX0_root_4 : decode cX0_root 4 = .ok (.iload_n 2, 1) := by decide +kernel
theorem dX0_root_5 : decode cX0_root 5 = .ok (.invokestatic 30, 3) := by decide +kernel
theorem dX0_root_8 : decode cX0_root 8 = .ok (.aload_n 0, 1) := by decide +kernel
theorem dX0_root_9 : decode cX0_root 9 = .ok (.getfield 18, 3) := by decide +kernel
theorem dX0_root_12 : decode cX0_root 12 = .ok (.iload_n 2, 1) := by decide +kernel
theorem dX0_root_13 : decode cX0_root 13 = .ok (.iaload, 1) := by decide +kernel
theorem dX0_root_14 : decode cX0_root 14 = .ok (.ifCond .ge 13, 3) := by decide +kernel
theorem dX0_root_17 : decode cX0_root 17 = .ok (.new 67, 3) := by decide +kernel
theorem dX0_root_20 : decode cX0_root 20 = .ok (.dup, 1) := by decide +kernel
theorem dX0_root_21 : decode cX0_root 21 = .ok (.ldc 86, 2) := by decide +kernel
theorem dX0_root_23 : decode cX0_root 23 = .ok (.invokespecial 71, 3) := by decide +kernel
theorem dX0_root_26 : decode cX0_root 26 = .ok (.athrow, 1) := by decide +kernel
theorem dX0_root_27 : decode cX0_root 27 = .ok (.aload_n 0, 1) := by decide +kernel
theorem dX0_root_28 : decode cX0_root 28 = .ok (.getfield 18, 3) := by decide +kernel
theorem dX0_root_31 : decode cX0_root 31 = .ok (.iload_n 2, 1) := by decide +kernel
theorem dX0_root_32 : decode cX0_root 32 = .ok (.iaload, 1) := by decide +kernel
theorem dX0_root_33 : decode cX0_root 33 = .ok (.ifCond .ne 14, 3) := by decide +kernel
theorem dX0_root_36 : decode cX0_root 36 = .ok (.aload_n 0, 1) := by decide +kernel
theorem dX0_root_37 : decode cX0_root 37 = .ok (.getfield 21, 3) := by decide +kernel
theorem dX0_root_40 : decode cX0_root 40 = .ok (.iconst 0, 1) := by decide +kernel
theorem dX0_root_41 : decode cX0_root 41 = .ok (.invokestatic 34, 3) := by decide +kernel
theorem dX0_root_44 : decode cX0_root 44 = .ok (.goto 8, 3) := by decide +kernel
theorem dX0_root_47 : decode cX0_root 47 = .ok (.aload_n 0, 1) := by decide +kernel
theorem dX0_root_48 : decode cX0_root 48 = .ok (.iload_n 2, 1) := by decide +kernel
theorem dX0_root_49 : decode cX0_root 49 = .ok (.invokevirtual 88, 3) := by decide +kernel
theorem dX0_root_52 : decode cX0_root 52 = .ok (.aload_n 0, 1) := by decide +kernel
theorem dX0_root_53 : decode cX0_root 53 = .ok (.iload_n 1, 1) := by decide +kernel
theorem dX0_root_54 : decode cX0_root 54 = .ok (.aload_n 0, 1) := by decide +kernel
theorem dX0_root_55 : decode cX0_root 55 = .ok (.getfield 18, 3) := by decide +kernel
theorem dX0_root_58 : decode cX0_root 58 = .ok (.iload_n 2, 1) := by decide +kernel
theorem dX0_root_59 : decode cX0_root 59 = .ok (.iaload, 1) := by decide +kernel
theorem dX0_root_60 : decode cX0_root 60 = .ok (.invokevirtual 40, 3) := by decide +kernel
theorem dX0_root_63 : decode cX0_root 63 = .ok (.return_, 1) := by decide +kernel
set_option maxRecDepth 20000 in
theorem ggX0_compare_X0_checkRegister : GoodIn wsX0_compare wsX0_checkRegister := goodIn_ca (goodIn_r _ [5, 6, 7] (by decide +kernel) (by decide +kernel)) (goodIn_sub (fun _ h => List.mem_cons_of_mem _ (List.mem_append_right _ h)) (by decide +kernel))
set_option maxRecDepth 20000 in
theorem gX0_compare_X0_checkRegister : GoodIn wsX0_compare (va_wsS RX0 30 yX0_checkRegister wsX0_checkRegister) := goodIn_app (goodIn_of _ (by decide +kernel)) ggX0_compare_X0_checkRegister
set_option maxRecDepth 20000 in
theorem ggX0_compare_X0_orderOfSizes : GoodIn wsX0_compare wsX0_orderOfSizes := goodIn_r _ [11, 12, 13, 14, 15, 16, 17, 18, 19, 20] (by decide +kernel) (by decide +kernel)
set_option maxRecDepth 20000 in
theorem gX0_compare_X0_orderOfSizes : GoodIn wsX0_compare (wsV RX0 91 RX0 yX0_orderOfSizes wsX0_orderOfSizes) := goodIn_app (goodIn_of _ (by decide +kernel)) ggX0_compare_X0_orderOfSizes
theorem dX0_compare_0 : decode cX0_compare 0 = .ok (.iload_n 1, 1) := by decide +kernel
theorem dX0_compare_1 : decode cX0_compare 1 = .ok (.invokestatic 30, 3) := by decide +kernel
theorem dX0_compare_4 : decode cX0_compare 4 = .ok (.iload_n 2, 1) := by decide +kernel
theorem dX0_compare_5 : decode cX0_compare 5 = .ok (.invokestatic 30, 3) := by decide +kernel
theorem dX0_compare_8 : decode cX0_compare 8 = .ok (.aload_n 0, 1) := by decide +kernel
theorem dX0_compare_9 : decode cX0_compare 9 = .ok (.getfield 18, 3) := by decide +kernel
theorem dX0_compare_12 : decode cX0_compare 12 = .ok (.iload_n 1, 1) := by decide +kernel
theorem dX0_compare_13 : decode cX0_compare 13 = .ok (.iaload, 1) := by decide +kernel
theorem dX0_compare_14 : decode cX0_compare 14 = .ok (.aload_n 0, 1) := by decide +kernel
theorem dX0_compare_15 : decode cX0_compare 15 = .ok (.getfield 18, 3) := by decide +kernel
theorem dX0_compare_18 : decode cX0_compare 18 = .ok (.iload_n 2, 1) := by decide +kernel
theorem dX0_compare_19 : decode cX0_compare 19 = .ok (.iaload, 1) := by decide +kernel
theorem dX0_compare_20 : decode cX0_compare 20 = .ok (.if_icmp .eq 24, 3) := by decide +kernel
theorem dX0_compare_23 : decode cX0_compare 23 = .ok (.aload_n 0, 1) := by decide +kernel
theorem dX0_compare_24 : decode cX0_compare 24 = .ok (.getfield 18, 3) := by decide +kernel
theorem dX0_compare_27 : decode cX0_compare 27 = .ok (.iload_n 1, 1) := by decide +kernel
theorem dX0_compare_28 : decode cX0_compare 28 = .ok (.iaload, 1) := by decide +kernel
theorem dX0_compare_29 : decode cX0_compare 29 = .ok (.aload_n 0, 1) := by decide +kernel
theorem dX0_compare_30 : decode cX0_compare 30 = .ok (.getfield 18, 3) := by decide +kernel
theorem dX0_compare_33 : decode cX0_compare 33 = .ok (.iload_n 2, 1) := by decide +kernel
theorem dX0_compare_34 : decode cX0_compare 34 = .ok (.iaload, 1) := by decide +kernel
theorem dX0_compare_35 : decode cX0_compare 35 = .ok (.if_icmp .ge 7, 3) := by decide +kernel
theorem dX0_compare_38 : decode cX0_compare 38 = .ok (.iconst (-1), 1) := by decide +kernel
theorem dX0_compare_39 : decode cX0_compare 39 = .ok (.goto 4, 3) := by decide +kernel
theorem dX0_compare_42 : decode cX0_compare 42 = .ok (.iconst 1, 1) := by decide +kernel
theorem dX0_compare_43 : decode cX0_compare 43 = .ok (.ireturn, 1) := by decide +kernel
theorem dX0_compare_44 : decode cX0_compare 44 = .ok (.aload_n 0, 1) := by decide +kernel
theorem dX0_compare_45 : decode cX0_compare 45 = .ok (.getfield 18, 3) := by decide +kernel
theorem dX0_compare_48 : decode cX0_compare 48 = .ok (.iload_n 1, 1) := by decide +kernel
theorem dX0_compare_49 : decode cX0_compare 49 = .ok (.iaload, 1) := by decide +kernel
theorem dX0_compare_50 : decode cX0_compare 50 = .ok (.aload_n 0, 1) := by decide +kernel
theorem dX0_compare_51 : decode cX0_compare 51 = .ok (.iload_n 1, 1) := by decide +kernel
theorem dX0_compare_52 : decode cX0_compare 52 = .ok (.iload_n 2, 1) := by decide +kernel
theorem dX0_compare_53 : decode cX0_compare 53 = .ok (.invokevirtual 91, 3) := by decide +kernel
theorem dX0_compare_56 : decode cX0_compare 56 = .ok (.imul, 1) := by decide +kernel
theorem dX0_compare_57 : decode cX0_compare 57 = .ok (.ireturn, 1) := by decide +kernel
set_option maxRecDepth 20000 in
theorem ggX0_compareSizes_X0_checkRegister : GoodIn wsX0_compareSizes wsX0_checkRegister := goodIn_ca (goodIn_r _ [4, 5, 6] (by decide +kernel) (by decide +kernel)) (goodIn_sub (fun _ h => List.mem_cons_of_mem _ (List.mem_append_right _ h)) (by decide +kernel))
set_option maxRecDepth 20000 in
theorem gX0_compareSizes_X0_checkRegister : GoodIn wsX0_compareSizes (va_wsS RX0 30 yX0_checkRegister wsX0_checkRegister) := goodIn_app (goodIn_of _ (by decide +kernel)) ggX0_compareSizes_X0_checkRegister
set_option maxRecDepth 20000 in
theorem ggX0_compareSizes_X0_orderOfSizes : GoodIn wsX0_compareSizes wsX0_orderOfSizes := goodIn_r _ [10, 11, 12, 13, 14, 15, 16, 17, 18, 19] (by decide +kernel) (by decide +kernel)
set_option maxRecDepth 20000 in
theorem gX0_compareSizes_X0_orderOfSizes : GoodIn wsX0_compareSizes (wsV RX0 91 RX0 yX0_orderOfSizes wsX0_orderOfSizes) := goodIn_app (goodIn_of _ (by decide +kernel)) ggX0_compareSizes_X0_orderOfSizes
theorem dX0_compareSizes_0 : decode cX0_compareSizes 0 = .ok (.iload_n 1, 1) := by decide +kernel
theorem dX0_compareSizes_1 : decode cX0_compareSizes 1 = .ok (.invokestatic 30, 3) := by decide +kernel
theorem dX0_compareSizes_4 : decode cX0_compareSizes 4 = .ok (.iload_n 2, 1) := by decide +kernel
theorem dX0_compareSizes_5 : decode cX0_compareSizes 5 = .ok (.invokestatic 30, 3) := by decide +kernel
theorem dX0_compareSizes_8 : decode cX0_compareSizes 8 = .ok (.aload_n 0, 1) := by decide +kernel
theorem dX0_compareSizes_9 : decode cX0_compareSizes 9 = .ok (.iload_n 1, 1) := by decide +kernel
theorem dX0_compareSizes_10 : decode cX0_compareSizes 10 = .ok (.iload_n 2, 1) := by decide +kernel
theorem dX0_compareSizes_11 : decode cX0_compareSizes 11 = .ok (.invokevirtual 91, 3) := by decide +kernel
theorem dX0_compareSizes_14 : decode cX0_compareSizes 14 = .ok (.ireturn, 1) := by decide +kernel
set_option maxRecDepth 20000 in
theorem ggX0_sign_X0_checkRegister : GoodIn wsX0_sign wsX0_checkRegister := goodIn_ca (goodIn_r _ [5, 6, 7] (by decide +kernel) (by decide +kernel)) (goodIn_sub (fun _ h => List.mem_cons_of_mem _ (List.mem_append_right _ h)) (by decide +kernel))
set_option maxRecDepth 20000 in
theorem gX0_sign_X0_checkRegister : GoodIn wsX0_sign (va_wsS RX0 30 yX0_checkRegister wsX0_checkRegister) := goodIn_app (goodIn_of _ (by decide +kernel)) ggX0_sign_X0_checkRegister
theorem dX0_sign_0 : decode cX0_sign 0 = .ok (.iload_n 1, 1) := by decide +kernel
theorem dX0_sign_1 : decode cX0_sign 1 = .ok (.invokestatic 30, 3) := by decide +kernel
theorem dX0_sign_4 : decode cX0_sign 4 = .ok (.aload_n 0, 1) := by decide +kernel
theorem dX0_sign_5 : decode cX0_sign 5 = .ok (.getfield 18, 3) := by decide +kernel
theorem dX0_sign_8 : decode cX0_sign 8 = .ok (.iload_n 1, 1) := by decide +kernel
theorem dX0_sign_9 : decode cX0_sign 9 = .ok (.iaload, 1) := by decide +kernel
theorem dX0_sign_10 : decode cX0_sign 10 = .ok (.ireturn, 1) := by decide +kernel
set_option maxRecDepth 20000 in
theorem ggX0_bits_X0_checkRegister : GoodIn wsX0_bits wsX0_checkRegister := goodIn_ca (goodIn_r _ [4, 5, 6] (by decide +kernel) (by decide +kernel)) (goodIn_sub (fun _ h => List.mem_cons_of_mem _ (List.mem_append_right _ h)) (by decide +kernel))
set_option maxRecDepth 20000 in
theorem gX0_bits_X0_checkRegister : GoodIn wsX0_bits (va_wsS RX0 30 yX0_checkRegister wsX0_checkRegister) := goodIn_app (goodIn_of _ (by decide +kernel)) ggX0_bits_X0_checkRegister
set_option maxRecDepth 20000 in
theorem ggX0_bits_X0_bitsOf : GoodIn wsX0_bits wsX0_bitsOf := goodIn_r _ [10, 11, 12, 13, 14, 3, 15, 16, 17, 18, 19, 20, 21] (by decide +kernel) (by decide +kernel)
set_option maxRecDepth 20000 in
theorem gX0_bits_X0_bitsOf : GoodIn wsX0_bits (wsV RX0 74 RX0 yX0_bitsOf wsX0_bitsOf) := goodIn_app (goodIn_of _ (by decide +kernel)) ggX0_bits_X0_bitsOf
theorem dX0_bits_0 : decode cX0_bits 0 = .ok (.iload_n 1, 1) := by decide +kernel
theorem dX0_bits_1 : decode cX0_bits 1 = .ok (.invokestatic 30, 3) := by decide +kernel
theorem dX0_bits_4 : decode cX0_bits 4 = .ok (.aload_n 0, 1) := by decide +kernel
theorem dX0_bits_5 : decode cX0_bits 5 = .ok (.iload_n 1, 1) := by decide +kernel
theorem dX0_bits_6 : decode cX0_bits 6 = .ok (.invokevirtual 74, 3) := by decide +kernel
theorem dX0_bits_9 : decode cX0_bits 9 = .ok (.ireturn, 1) := by decide +kernel
set_option maxRecDepth 20000 in
theorem ggX0_word_X0_checkRegister : GoodIn wsX0_word wsX0_checkRegister := goodIn_ca (goodIn_r _ [7, 1, 2] (by decide +kernel) (by decide +kernel)) (goodIn_sub (fun _ h => List.mem_cons_of_mem _ (List.mem_append_right _ h)) (by decide +kernel))
set_option maxRecDepth 20000 in
theorem gX0_word_X0_checkRegister : GoodIn wsX0_word (va_wsS RX0 30 yX0_checkRegister wsX0_checkRegister) := goodIn_app (goodIn_of _ (by decide +kernel)) ggX0_word_X0_checkRegister
theorem dX0_word_0 : decode cX0_word 0 = .ok (.iload_n 1, 1) := by decide +kernel
theorem dX0_word_1 : decode cX0_word 1 = .ok (.invokestatic 30, 3) := by decide +kernel
theorem dX0_word_4 : decode cX0_word 4 = .ok (.iload_n 2, 1) := by decide +kernel
theorem dX0_word_5 : decode cX0_word 5 = .ok (.ifCond .lt 10, 3) := by decide +kernel
theorem dX0_word_8 : decode cX0_word 8 = .ok (.iload_n 2, 1) := by decide +kernel
theorem dX0_word_9 : decode cX0_word 9 = .ok (.sipush 512, 3) := by decide +kernel
theorem dX0_word_12 : decode cX0_word 12 = .ok (.if_icmp .lt 13, 3) := by decide +kernel
theorem dX0_word_15 : decode cX0_word 15 = .ok (.new 95, 3) := by decide +kernel
theorem dX0_word_18 : decode cX0_word 18 = .ok (.dup, 1) := by decide +kernel
theorem dX0_word_19 : decode cX0_word 19 = .ok (.ldc 97, 2) := by decide +kernel
theorem dX0_word_21 : decode cX0_word 21 = .ok (.invokespecial 99, 3) := by decide +kernel
theorem dX0_word_24 : decode cX0_word 24 = .ok (.athrow, 1) := by decide +kernel
theorem dX0_word_25 : decode cX0_word 25 = .ok (.aload_n 0, 1) := by decide +kernel
theorem dX0_word_26 : decode cX0_word 26 = .ok (.getfield 11, 3) := by decide +kernel
theorem dX0_word_29 : decode cX0_word 29 = .ok (.iload_n 1, 1) := by decide +kernel
theorem dX0_word_30 : decode cX0_word 30 = .ok (.aaload, 1) := by decide +kernel
theorem dX0_word_31 : decode cX0_word 31 = .ok (.iload_n 2, 1) := by decide +kernel
theorem dX0_word_32 : decode cX0_word 32 = .ok (.iaload, 1) := by decide +kernel
theorem dX0_word_33 : decode cX0_word 33 = .ok (.ireturn, 1) := by decide +kernel
set_option maxRecDepth 20000 in
theorem ggX0_residue_X0_checkRegister : GoodIn wsX0_residue wsX0_checkRegister := goodIn_ca (goodIn_r _ [9, 10, 11] (by decide +kernel) (by decide +kernel)) (goodIn_sub (fun _ h => List.mem_cons_of_mem _ (List.mem_append_right _ h)) (by decide +kernel))
set_option maxRecDepth 20000 in
theorem gX0_residue_X0_checkRegister : GoodIn wsX0_residue (va_wsS RX0 30 yX0_checkRegister wsX0_checkRegister) := goodIn_app (goodIn_of _ (by decide +kernel)) ggX0_residue_X0_checkRegister
set_option maxRecDepth 20000 in
theorem ggX0_residue_X0_pairOf : GoodIn wsX0_residue wsX0_pairOf := goodIn_r _ [14, 15] (by decide +kernel) (by decide +kernel)
set_option maxRecDepth 20000 in
theorem gX0_residue_X0_pairOf : GoodIn wsX0_residue (va_wsS RX0 102 yX0_pairOf wsX0_pairOf) := goodIn_app (goodIn_of _ (by decide +kernel)) ggX0_residue_X0_pairOf
theorem dX0_residue_0 : decode cX0_residue 0 = .ok (.iload_n 1, 1) := by decide +kernel
theorem dX0_residue_1 : decode cX0_residue 1 = .ok (.invokestatic 30, 3) := by decide +kernel
theorem dX0_residue_4 : decode cX0_residue 4 = .ok (.iload_n 2, 1) := by decide +kernel
theorem dX0_residue_5 : decode cX0_residue 5 = .ok (.iconst 1, 1) := by decide +kernel
theorem dX0_residue_6 : decode cX0_residue 6 = .ok (.if_icmp .ge 13, 3) := by decide +kernel
theorem dX0_residue_9 : decode cX0_residue 9 = .ok (.new 67, 3) := by decide +kernel
theorem dX0_residue_12 : decode cX0_residue 12 = .ok (.dup, 1) := by decide +kernel
theorem dX0_residue_13 : decode cX0_residue 13 = .ok (.ldc 100, 2) := by decide +kernel
theorem dX0_residue_15 : decode cX0_residue 15 = .ok (.invokespecial 71, 3) := by decide +kernel
theorem dX0_residue_18 : decode cX0_residue 18 = .ok (.athrow, 1) := by decide +kernel
theorem dX0_residue_19 : decode cX0_residue 19 = .ok (.lconst 0, 1) := by decide +kernel
theorem dX0_residue_20 : decode cX0_residue 20 = .ok (.lstore_n 3, 1) := by decide +kernel
theorem dX0_residue_21 : decode cX0_residue 21 = .ok (.aload_n 0, 1) := by decide +kernel
theorem dX0_residue_22 : decode cX0_residue 22 = .ok (.getfield 14, 3) := by decide +kernel
theorem dX0_residue_25 : decode cX0_residue 25 = .ok (.iload_n 1, 1) := by decide +kernel
theorem dX0_residue_26 : decode cX0_residue 26 = .ok (.iaload, 1) := by decide +kernel
theorem dX0_residue_27 : decode cX0_residue 27 = .ok (.iconst 1, 1) := by decide +kernel
theorem dX0_residue_28 : decode cX0_residue 28 = .ok (.isub, 1) := by decide +kernel
theorem dX0_residue_29 : decode cX0_residue 29 = .ok (.istore 5, 2) := by decide +kernel
theorem dX0_residue_31 : decode cX0_residue 31 = .ok (.iload 5, 2) := by decide +kernel
theorem dX0_residue_33 : decode cX0_residue 33 = .ok (.ifCond .lt 26, 3) := by decide +kernel
theorem dX0_residue_36 : decode cX0_residue 36 = .ok (.lload_n 3, 1) := by decide +kernel
theorem dX0_residue_37 : decode cX0_residue 37 = .ok (.aload_n 0, 1) := by decide +kernel
theorem dX0_residue_38 : decode cX0_residue 38 = .ok (.getfield 11, 3) := by decide +kernel
theorem dX0_residue_41 : decode cX0_residue 41 = .ok (.iload_n 1, 1) := by decide +kernel
theorem dX0_residue_42 : decode cX0_residue 42 = .ok (.aaload, 1) := by decide +kernel
theorem dX0_residue_43 : decode cX0_residue 43 = .ok (.iload 5, 2) := by decide +kernel
theorem dX0_residue_45 : decode cX0_residue 45 = .ok (.iaload, 1) := by decide +kernel
theorem dX0_residue_46 : decode cX0_residue 46 = .ok (.invokestatic 102, 3) := by decide +kernel
theorem dX0_residue_49 : decode cX0_residue 49 = .ok (.iload_n 2, 1) := by decide +kernel
theorem dX0_residue_50 : decode cX0_residue 50 = .ok (.i2l, 1) := by decide +kernel
theorem dX0_residue_51 : decode cX0_residue 51 = .ok (.lrem, 1) := by decide +kernel
theorem dX0_residue_52 : decode cX0_residue 52 = .ok (.lstore_n 3, 1) := by decide +kernel
theorem dX0_residue_53 : decode cX0_residue 53 = .ok (.iinc 5 (-1), 3) := by decide +kernel
theorem dX0_residue_56 : decode cX0_residue 56 = .ok (.goto (-25), 3) := by decide +kernel
theorem dX0_residue_59 : decode cX0_residue 59 = .ok (.aload_n 0, 1) := by decide +kernel
theorem dX0_residue_60 : decode cX0_residue 60 = .ok (.getfield 18, 3) := by decide +kernel
theorem dX0_residue_63 : decode cX0_residue 63 = .ok (.iload_n 1, 1) := by decide +kernel
theorem dX0_residue_64 : decode cX0_residue 64 = .ok (.iaload, 1) := by decide +kernel
theorem dX0_residue_65 : decode cX0_residue 65 = .ok (.ifCond .ge 14, 3) := by decide +kernel
theorem dX0_residue_68 : decode cX0_residue 68 = .ok (.lload_n 3, 1) := by decide +kernel
theorem dX0_residue_69 : decode cX0_residue 69 = .ok (.lconst 0, 1) := by decide +kernel
theorem dX0_residue_70 : decode cX0_residue 70 = .ok (.lcmp, 1) := by decide +kernel
theorem dX0_residue_71 : decode cX0_residue 71 = .ok (.ifCond .eq 8, 3) := by decide +kernel
theorem dX0_residue_74 : decode cX0_residue 74 = .ok (.iload_n 2, 1) := by decide +kernel
theorem dX0_residue_75 : decode cX0_residue 75 = .ok (.i2l, 1) := by decide +kernel
theorem dX0_residue_76 : decode cX0_residue 76 = .ok (.lload_n 3, 1) := by decide +kernel
theorem dX0_residue_77 : decode cX0_residue 77 = .ok (.lsub, 1) := by decide +kernel
theorem dX0_residue_78 : decode cX0_residue 78 = .ok (.lstore_n 3, 1) := by decide +kernel
theorem dX0_residue_79 : decode cX0_residue 79 = .ok (.lload_n 3, 1) := by decide +kernel
theorem dX0_residue_80 : decode cX0_residue 80 = .ok (.l2i, 1) := by decide +kernel
theorem dX0_residue_81 : decode cX0_residue 81 = .ok (.ireturn, 1) := by decide +kernel
theorem dX0_checkRegister_0 : decode cX0_checkRegister 0 = .ok (.iload_n 0, 1) := by decide +kernel
theorem dX0_checkRegister_1 : decode cX0_checkRegister 1 = .ok (.ifCond .lt 9, 3) := by decide +kernel
theorem dX0_checkRegister_4 : decode cX0_checkRegister 4 = .ok (.iload_n 0, 1) := by decide +kernel
theorem dX0_checkRegister_5 : decode cX0_checkRegister 5 = .ok (.bipush 12, 2) := by decide +kernel
theorem dX0_checkRegister_7 : decode cX0_checkRegister 7 = .ok (.if_icmp .lt 13, 3) := by decide +kernel
theorem dX0_checkRegister_10 : decode cX0_checkRegister 10 = .ok (.new 95, 3) := by decide +kernel
theorem dX0_checkRegister_13 : decode cX0_checkRegister 13 = .ok (.dup, 1) := by decide +kernel
theorem dX0_checkRegister_14 : decode cX0_checkRegister 14 = .ok (.ldc 106, 2) := by decide +kernel
theorem dX0_checkRegister_16 : decode cX0_checkRegister 16 = .ok (.invokespecial 99, 3) := by decide +kernel
theorem dX0_checkRegister_19 : decode cX0_checkRegister 19 = .ok (.athrow, 1) := by decide +kernel
theorem dX0_checkRegister_20 : decode cX0_checkRegister 20 = .ok (.return_, 1) := by decide +kernel
theorem dX0_checkResultFits_0 : decode cX0_checkResultFits 0 = .ok (.aload_n 0, 1) := by decide +kernel
theorem dX0_checkResultFits_1 : decode cX0_checkResultFits 1 = .ok (.getfield 21, 3) := by decide +kernel
theorem dX0_checkResultFits_4 : decode cX0_checkResultFits 4 = .ok (.sipush 512, 3) := by decide +kernel
theorem dX0_checkResultFits_7 : decode cX0_checkResultFits 7 = .ok (.iaload, 1) := by decide +kernel
theorem dX0_checkResultFits_8 : decode cX0_checkResultFits 8 = .ok (.ifCond .eq 13, 3) := by decide +kernel
theorem dX0_checkResultFits_11 : decode cX0_checkResultFits 11 = .ok (.new 44, 3) := by decide +kernel
theorem dX0_checkResultFits_14 : decode cX0_checkResultFits 14 = .ok (.dup, 1) := by decide +kernel
theorem dX0_checkResultFits_15 : decode cX0_checkResultFits 15 = .ok (.ldc 46, 2) := by decide +kernel
theorem dX0_checkResultFits_17 : decode cX0_checkResultFits 17 = .ok (.invokespecial 48, 3) := by decide +kernel
theorem dX0_checkResultFits_20 : decode cX0_checkResultFits 20 = .ok (.athrow, 1) := by decide +kernel
theorem dX0_checkResultFits_21 : decode cX0_checkResultFits 21 = .ok (.return_, 1) := by decide +kernel
theorem dX0_keepResult_0 : decode cX0_keepResult 0 = .ok (.sipush 512, 3) := by decide +kernel
theorem dX0_keepResult_3 : decode cX0_keepResult 3 = .ok (.istore_n 3, 1) := by decide +kernel
theorem dX0_keepResult_4 : decode cX0_keepResult 4 = .ok (.iload_n 3, 1) := by decide +kernel
theorem dX0_keepResult_5 : decode cX0_keepResult 5 = .ok (.ifCond .le 20, 3) := by decide +kernel
theorem dX0_keepResult_8 : decode cX0_keepResult 8 = .ok (.aload_n 0, 1) := by decide +kernel
theorem dX0_keepResult_9 : decode cX0_keepResult 9 = .ok (.getfield 21, 3) := by decide +kernel
theorem dX0_keepResult_12 : decode cX0_keepResult 12 = .ok (.iload_n 3, 1) := by decide +kernel
theorem dX0_keepResult_13 : decode cX0_keepResult 13 = .ok (.iconst 1, 1) := by decide +kernel
theorem dX0_keepResult_14 : decode cX0_keepResult 14 = .ok (.isub, 1) := by decide +kernel
theorem dX0_keepResult_15 : decode cX0_keepResult 15 = .ok (.iaload, 1) := by decide +kernel
theorem dX0_keepResult_16 : decode cX0_keepResult 16 = .ok (.ifCond .ne 9, 3) := by decide +kernel
theorem dX0_keepResult_19 : decode cX0_keepResult 19 = .ok (.iinc 3 (-1), 3) := by decide +kernel
theorem dX0_keepResult_22 : decode cX0_keepResult 22 = .ok (.goto (-18), 3) := by decide +kernel
theorem dX0_keepResult_25 : decode cX0_keepResult 25 = .ok (.aload_n 0, 1) := by decide +kernel
theorem dX0_keepResult_26 : decode cX0_keepResult 26 = .ok (.getfield 21, 3) := by decide +kernel
theorem dX0_keepResult_29 : decode cX0_keepResult 29 = .ok (.iconst 0, 1) := by decide +kernel
theorem dX0_keepResult_30 : decode cX0_keepResult 30 = .ok (.aload_n 0, 1) := by decide +kernel
theorem dX0_keepResult_31 : decode cX0_keepResult 31 = .ok (.getfield 11, 3) := by decide +kernel
theorem dX0_keepResult_34 : decode cX0_keepResult 34 = .ok (.iload_n 1, 1) := by decide +kernel
theorem dX0_keepResult_35 : decode cX0_keepResult 35 = .ok (.aaload, 1) := by decide +kernel
theorem dX0_keepResult_36 : decode cX0_keepResult 36 = .ok (.iconst 0, 1) := by decide +kernel
theorem dX0_keepResult_37 : decode cX0_keepResult 37 = .ok (.sipush 512, 3) := by decide +kernel
theorem dX0_keepResult_40 : decode cX0_keepResult 40 = .ok (.invokestatic 51, 3) := by decide +kernel
theorem dX0_keepResult_43 : decode cX0_keepResult 43 = .ok (.aload_n 0, 1) := by decide +kernel
theorem dX0_keepResult_44 : decode cX0_keepResult 44 = .ok (.getfield 14, 3) := by decide +kernel
theorem dX0_keepResult_47 : decode cX0_keepResult 47 = .ok (.iload_n 1, 1) := by decide +kernel
theorem dX0_keepResult_48 : decode cX0_keepResult 48 = .ok (.iload_n 3, 1) := by decide +kernel
theorem dX0_keepResult_49 : decode cX0_keepResult 49 = .ok (.iastore, 1) := by decide +kernel
theorem dX0_keepResult_50 : decode cX0_keepResult 50 = .ok (.aload_n 0, 1) := by decide +kernel
theorem dX0_keepResult_51 : decode cX0_keepResult 51 = .ok (.getfield 18, 3) := by decide +kernel
theorem dX0_keepResult_54 : decode cX0_keepResult 54 = .ok (.iload_n 1, 1) := by decide +kernel
theorem dX0_keepResult_55 : decode cX0_keepResult 55 = .ok (.iload_n 3, 1) := by decide +kernel
theorem dX0_keepResult_56 : decode cX0_keepResult 56 = .ok (.ifCond .ne 7, 3) := by decide +kernel
theorem dX0_keepResult_59 : decode cX0_keepResult 59 = .ok (.iconst 0, 1) := by decide +kernel
theorem dX0_keepResult_60 : decode cX0_keepResult 60 = .ok (.goto 4, 3) := by decide +kernel
theorem dX0_keepResult_63 : decode cX0_keepResult 63 = .ok (.iload_n 2, 1) := by decide +kernel
theorem dX0_keepResult_64 : decode cX0_keepResult 64 = .ok (.iastore, 1) := by decide +kernel
theorem dX0_keepResult_65 : decode cX0_keepResult 65 = .ok (.return_, 1) := by decide +kernel
theorem dX0_pairOf_0 : decode cX0_pairOf 0 = .ok (.lload_n 0, 1) := by decide +kernel
theorem dX0_pairOf_1 : decode cX0_pairOf 1 = .ok (.bipush 32, 2) := by decide +kernel
theorem dX0_pairOf_3 : decode cX0_pairOf 3 = .ok (.lshl, 1) := by decide +kernel
theorem dX0_pairOf_4 : decode cX0_pairOf 4 = .ok (.iload_n 2, 1) := by decide +kernel
theorem dX0_pairOf_5 : decode cX0_pairOf 5 = .ok (.i2l, 1) := by decide +kernel
theorem dX0_pairOf_6 : decode cX0_pairOf 6 = .ok (.ldc2_w 108, 3) := by decide +kernel
theorem dX0_pairOf_9 : decode cX0_pairOf 9 = .ok (.land, 1) := by decide +kernel
theorem dX0_pairOf_10 : decode cX0_pairOf 10 = .ok (.lor, 1) := by decide +kernel
theorem dX0_pairOf_11 : decode cX0_pairOf 11 = .ok (.lreturn, 1) := by decide +kernel
set_option maxRecDepth 20000 in
theorem ggX0_bitsOf_X0_bitsOfWord : GoodIn wsX0_bitsOf wsX0_bitsOfWord := goodIn_r _ [6] (by decide +kernel) (by decide +kernel)
set_option maxRecDepth 20000 in
theorem gX0_bitsOf_X0_bitsOfWord : GoodIn wsX0_bitsOf (va_wsS RX0 110 yX0_bitsOfWord wsX0_bitsOfWord) := goodIn_app (goodIn_of _ (by decide +kernel)) ggX0_bitsOf_X0_bitsOfWord
theorem dX0_bitsOf_0 : decode cX0_bitsOf 0 = .ok (.aload_n 0, 1) := by decide +kernel
theorem dX0_bitsOf_1 : decode cX0_bitsOf 1 = .ok (.getfield 14, 3) := by decide +kernel
theorem dX0_bitsOf_4 : decode cX0_bitsOf 4 = .ok (.iload_n 1, 1) := by decide +kernel
theorem dX0_bitsOf_5 : decode cX0_bitsOf 5 = .ok (.iaload, 1) := by decide +kernel
theorem dX0_bitsOf_6 : decode cX0_bitsOf 6 = .ok (.istore_n 2, 1) := by decide +kernel
theorem dX0_bitsOf_7 : decode cX0_bitsOf 7 = .ok (.iload_n 2, 1) := by decide +kernel
theorem dX0_bitsOf_8 : decode cX0_bitsOf 8 = .ok (.ifCond .ne 5, 3) := by decide +kernel
theorem dX0_bitsOf_11 : decode cX0_bitsOf 11 = .ok (.iconst 0, 1) := by decide +kernel
theorem dX0_bitsOf_12 : decode cX0_bitsOf 12 = .ok (.ireturn, 1) := by decide +kernel
theorem dX0_bitsOf_13 : decode cX0_bitsOf 13 = .ok (.iload_n 2, 1) := by decide +kernel
theorem dX0_bitsOf_14 : decode cX0_bitsOf 14 = .ok (.iconst 1, 1) := by decide +kernel
theorem dX0_bitsOf_15 : decode cX0_bitsOf 15 = .ok (.isub, 1) := by decide +kernel
theorem dX0_bitsOf_16 : decode cX0_bitsOf 16 = .ok (.bipush 32, 2) := by decide +kernel
theorem dX0_bitsOf_18 : decode cX0_bitsOf 18 = .ok (.imul, 1) := by decide +kernel
theorem dX0_bitsOf_19 : decode cX0_bitsOf 19 = .ok (.aload_n 0, 1) := by decide +kernel
theorem dX0_bitsOf_20 : decode cX0_bitsOf 20 = .ok (.getfield 11, 3) := by decide +kernel
theorem dX0_bitsOf_23 : decode cX0_bitsOf 23 = .ok (.iload_n 1, 1) := by decide +kernel
theorem dX0_bitsOf_24 : decode cX0_bitsOf 24 = .ok (.aaload, 1) := by decide +kernel
theorem dX0_bitsOf_25 : decode cX0_bitsOf 25 = .ok (.iload_n 2, 1) := by decide +kernel
theorem dX0_bitsOf_26 : decode cX0_bitsOf 26 = .ok (.iconst 1, 1) := by decide +kernel
theorem dX0_bitsOf_27 : decode cX0_bitsOf 27 = .ok (.isub, 1) := by decide +kernel
theorem dX0_bitsOf_28 : decode cX0_bitsOf 28 = .ok (.iaload, 1) := by decide +kernel
theorem dX0_bitsOf_29 : decode cX0_bitsOf 29 = .ok (.invokestatic 110, 3) := by decide +kernel
theorem dX0_bitsOf_32 : decode cX0_bitsOf 32 = .ok (.iadd, 1) := by decide +kernel
theorem dX0_bitsOf_33 : decode cX0_bitsOf 33 = .ok (.ireturn, 1) := by decide +kernel
theorem dX0_bitsOfWord_0 : decode cX0_bitsOfWord 0 = .ok (.bipush 32, 2) := by decide +kernel
theorem dX0_bitsOfWord_2 : decode cX0_bitsOfWord 2 = .ok (.istore_n 1, 1) := by decide +kernel
theorem dX0_bitsOfWord_3 : decode cX0_bitsOfWord 3 = .ok (.iload_n 1, 1) := by decide +kernel
theorem dX0_bitsOfWord_4 : decode cX0_bitsOfWord 4 = .ok (.ifCond .le 17, 3) := by decide +kernel
theorem dX0_bitsOfWord_7 : decode cX0_bitsOfWord 7 = .ok (.iload_n 0, 1) := by decide +kernel
theorem dX0_bitsOfWord_8 : decode cX0_bitsOfWord 8 = .ok (.iload_n 1, 1) := by decide +kernel
theorem dX0_bitsOfWord_9 : decode cX0_bitsOfWord 9 = .ok (.iconst 1, 1) := by decide +kernel
theorem dX0_bitsOfWord_10 : decode cX0_bitsOfWord 10 = .ok (.isub, 1) := by decide +kernel
theorem dX0_bitsOfWord_11 : decode cX0_bitsOfWord 11 = .ok (.iushr, 1) := by decide +kernel
theorem dX0_bitsOfWord_12 : decode cX0_bitsOfWord 12 = .ok (.ifCond .ne 9, 3) := by decide +kernel
theorem dX0_bitsOfWord_15 : decode cX0_bitsOfWord 15 = .ok (.iinc 1 (-1), 3) := by decide +kernel
theorem dX0_bitsOfWord_18 : decode cX0_bitsOfWord 18 = .ok (.goto (-15), 3) := by decide +kernel
theorem dX0_bitsOfWord_21 : decode cX0_bitsOfWord 21 = .ok (.iload_n 1, 1) := by decide +kernel
theorem dX0_bitsOfWord_22 : decode cX0_bitsOfWord 22 = .ok (.ireturn, 1) := by decide +kernel
theorem dX0_orderOfSizes_0 : decode cX0_orderOfSizes 0 = .ok (.aload_n 0, 1) := by decide +kernel
theorem dX0_orderOfSizes_1 : decode cX0_orderOfSizes 1 = .ok (.getfield 14, 3) := by decide +kernel
theorem dX0_orderOfSizes_4 : decode cX0_orderOfSizes 4 = .ok (.iload_n 1, 1) := by decide +kernel
theorem dX0_orderOfSizes_5 : decode cX0_orderOfSizes 5 = .ok (.iaload, 1) := by decide +kernel
theorem dX0_orderOfSizes_6 : decode cX0_orderOfSizes 6 = .ok (.aload_n 0, 1) := by decide +kernel
theorem dX0_orderOfSizes_7 : decode cX0_orderOfSizes 7 = .ok (.getfield 14, 3) := by decide +kernel
theorem dX0_orderOfSizes_10 : decode cX0_orderOfSizes 10 = .ok (.iload_n 2, 1) := by decide +kernel
theorem dX0_orderOfSizes_11 : decode cX0_orderOfSizes 11 = .ok (.iaload, 1) := by decide +kernel
theorem dX0_orderOfSizes_12 : decode cX0_orderOfSizes 12 = .ok (.if_icmp .eq 24, 3) := by decide +kernel
theorem dX0_orderOfSizes_15 : decode cX0_orderOfSizes 15 = .ok (.aload_n 0, 1) := by decide +kernel
theorem dX0_orderOfSizes_16 : decode cX0_orderOfSizes 16 = .ok (.getfield 14, 3) := by decide +kernel
theorem dX0_orderOfSizes_19 : decode cX0_orderOfSizes 19 = .ok (.iload_n 1, 1) := by decide +kernel
theorem dX0_orderOfSizes_20 : decode cX0_orderOfSizes 20 = .ok (.iaload, 1) := by decide +kernel
theorem dX0_orderOfSizes_21 : decode cX0_orderOfSizes 21 = .ok (.aload_n 0, 1) := by decide +kernel
theorem dX0_orderOfSizes_22 : decode cX0_orderOfSizes 22 = .ok (.getfield 14, 3) := by decide +kernel
theorem dX0_orderOfSizes_25 : decode cX0_orderOfSizes 25 = .ok (.iload_n 2, 1) := by decide +kernel
theorem dX0_orderOfSizes_26 : decode cX0_orderOfSizes 26 = .ok (.iaload, 1) := by decide +kernel
theorem dX0_orderOfSizes_27 : decode cX0_orderOfSizes 27 = .ok (.if_icmp .ge 7, 3) := by decide +kernel
theorem dX0_orderOfSizes_30 : decode cX0_orderOfSizes 30 = .ok (.iconst (-1), 1) := by decide +kernel
theorem dX0_orderOfSizes_31 : decode cX0_orderOfSizes 31 = .ok (.goto 4, 3) := by decide +kernel
theorem dX0_orderOfSizes_34 : decode cX0_orderOfSizes 34 = .ok (.iconst 1, 1) := by decide +kernel
theorem dX0_orderOfSizes_35 : decode cX0_orderOfSizes 35 = .ok (.ireturn, 1) := by decide +kernel
theorem dX0_orderOfSizes_36 : decode cX0_orderOfSizes 36 = .ok (.aload_n 0, 1) := by decide +kernel
theorem dX0_orderOfSizes_37 : decode cX0_orderOfSizes 37 = .ok (.getfield 14, 3) := by decide +kernel
theorem dX0_orderOfSizes_40 : decode cX0_orderOfSizes 40 = .ok (.iload_n 1, 1) := by decide +kernel
theorem dX0_orderOfSizes_41 : decode cX0_orderOfSizes 41 = .ok (.iaload, 1) := by decide +kernel
theorem dX0_orderOfSizes_42 : decode cX0_orderOfSizes 42 = .ok (.iconst 1, 1) := by decide +kernel
theorem dX0_orderOfSizes_43 : decode cX0_orderOfSizes 43 = .ok (.isub, 1) := by decide +kernel
theorem dX0_orderOfSizes_44 : decode cX0_orderOfSizes 44 = .ok (.istore_n 3, 1) := by decide +kernel
theorem dX0_orderOfSizes_45 : decode cX0_orderOfSizes 45 = .ok (.iload_n 3, 1) := by decide +kernel
theorem dX0_orderOfSizes_46 : decode cX0_orderOfSizes 46 = .ok (.ifCond .lt 61, 3) := by decide +kernel
theorem dX0_orderOfSizes_49 : decode cX0_orderOfSizes 49 = .ok (.aload_n 0, 1) := by decide +kernel
theorem dX0_orderOfSizes_50 : decode cX0_orderOfSizes 50 = .ok (.getfield 11, 3) := by decide +kernel
theorem dX0_orderOfSizes_53 : decode cX0_orderOfSizes 53 = .ok (.iload_n 1, 1) := by decide +kernel
theorem dX0_orderOfSizes_54 : decode cX0_orderOfSizes 54 = .ok (.aaload, 1) := by decide +kernel
theorem dX0_orderOfSizes_55 : decode cX0_orderOfSizes 55 = .ok (.iload_n 3, 1) := by decide +kernel
theorem dX0_orderOfSizes_56 : decode cX0_orderOfSizes 56 = .ok (.iaload, 1) := by decide +kernel
theorem dX0_orderOfSizes_57 : decode cX0_orderOfSizes 57 = .ok (.i2l, 1) := by decide +kernel
theorem dX0_orderOfSizes_58 : decode cX0_orderOfSizes 58 = .ok (.ldc2_w 108, 3) := by decide +kernel
theorem dX0_orderOfSizes_61 : decode cX0_orderOfSizes 61 = .ok (.land, 1) := by decide +kernel
theorem dX0_orderOfSizes_62 : decode cX0_orderOfSizes 62 = .ok (.lstore 4, 2) := by decide +kernel
theorem dX0_orderOfSizes_64 : decode cX0_orderOfSizes 64 = .ok (.aload_n 0, 1) := by decide +kernel
theorem dX0_orderOfSizes_65 : decode cX0_orderOfSizes 65 = .ok (.getfield 11, 3) := by decide +kernel
theorem dX0_orderOfSizes_68 : decode cX0_orderOfSizes 68 = .ok (.iload_n 2, 1) := by decide +kernel
theorem dX0_orderOfSizes_69 : decode cX0_orderOfSizes 69 = .ok (.aaload, 1) := by decide +kernel
theorem dX0_orderOfSizes_70 : decode cX0_orderOfSizes 70 = .ok (.iload_n 3, 1) := by decide +kernel
theorem dX0_orderOfSizes_71 : decode cX0_orderOfSizes 71 = .ok (.iaload, 1) := by decide +kernel
theorem dX0_orderOfSizes_72 : decode cX0_orderOfSizes 72 = .ok (.i2l, 1) := by decide +kernel
theorem dX0_orderOfSizes_73 : decode cX0_orderOfSizes 73 = .ok (.ldc2_w 108, 3) := by decide +kernel
theorem dX0_orderOfSizes_76 : decode cX0_orderOfSizes 76 = .ok (.land, 1) := by decide +kernel
theorem dX0_orderOfSizes_77 : decode cX0_orderOfSizes 77 = .ok (.lstore 6, 2) := by decide +kernel
theorem dX0_orderOfSizes_79 : decode cX0_orderOfSizes 79 = .ok (.lload 4, 2) := by decide +kernel
theorem dX0_orderOfSizes_81 : decode cX0_orderOfSizes 81 = .ok (.lload 6, 2) := by decide +kernel
theorem dX0_orderOfSizes_83 : decode cX0_orderOfSizes 83 = .ok (.lcmp, 1) := by decide +kernel
theorem dX0_orderOfSizes_84 : decode cX0_orderOfSizes 84 = .ok (.ifCond .eq 17, 3) := by decide +kernel
theorem dX0_orderOfSizes_87 : decode cX0_orderOfSizes 87 = .ok (.lload 4, 2) := by decide +kernel
theorem dX0_orderOfSizes_89 : decode cX0_orderOfSizes 89 = .ok (.lload 6, 2) := by decide +kernel
theorem dX0_orderOfSizes_91 : decode cX0_orderOfSizes 91 = .ok (.lcmp, 1) := by decide +kernel
theorem dX0_orderOfSizes_92 : decode cX0_orderOfSizes 92 = .ok (.ifCond .ge 7, 3) := by decide +kernel
theorem dX0_orderOfSizes_95 : decode cX0_orderOfSizes 95 = .ok (.iconst (-1), 1) := by decide +kernel
theorem dX0_orderOfSizes_96 : decode cX0_orderOfSizes 96 = .ok (.goto 4, 3) := by decide +kernel
theorem dX0_orderOfSizes_99 : decode cX0_orderOfSizes 99 = .ok (.iconst 1, 1) := by decide +kernel
theorem dX0_orderOfSizes_100 : decode cX0_orderOfSizes 100 = .ok (.ireturn, 1) := by decide +kernel
theorem dX0_orderOfSizes_101 : decode cX0_orderOfSizes 101 = .ok (.iinc 3 (-1), 3) := by decide +kernel
theorem dX0_orderOfSizes_104 : decode cX0_orderOfSizes 104 = .ok (.goto (-59), 3) := by decide +kernel
theorem dX0_orderOfSizes_107 : decode cX0_orderOfSizes 107 = .ok (.iconst 0, 1) := by decide +kernel
theorem dX0_orderOfSizes_108 : decode cX0_orderOfSizes 108 = .ok (.ireturn, 1) := by decide +kernel
set_option maxRecDepth 20000 in
theorem ggX0_putSum_X0_addSizes : GoodIn wsX0_putSum wsX0_addSizes := goodIn_r _ [6, 7, 8, 9, 10, 11, 12, 13, 14, 15, 16, 17, 18, 41, 42, 43, 44, 45, 46] (by decide +kernel) (by decide +kernel)
set_option maxRecDepth 20000 in
theorem gX0_putSum_X0_addSizes : GoodIn wsX0_putSum (wsV RX0 113 RX0 yX0_addSizes wsX0_addSizes) := goodIn_app (goodIn_of _ (by decide +kernel)) ggX0_putSum_X0_addSizes
set_option maxRecDepth 20000 in
theorem ggX0_putSum_X0_checkResultFits : GoodIn wsX0_putSum wsX0_checkResultFits := goodIn_ca (goodIn_r _ [22, 23, 24, 7, 41, 42, 43, 44, 45, 46] (by decide +kernel) (by decide +kernel)) (goodIn_sub (fun _ h => List.mem_cons_of_mem _ (List.mem_append_right _ h)) (by decide +kernel))
set_option maxRecDepth 20000 in
theorem gX0_putSum_X0_checkResultFits : GoodIn wsX0_putSum (wsV RX0 64 RX0 yX0_checkResultFits wsX0_checkResultFits) := goodIn_app (goodIn_of _ (by decide +kernel)) ggX0_putSum_X0_checkResultFits
set_option maxRecDepth 20000 in
theorem ggX0_putSum_X0_orderOfSizes : GoodIn wsX0_putSum wsX0_orderOfSizes := goodIn_r _ [28, 8, 13, 14, 41, 42, 43, 44, 45, 46] (by decide +kernel) (by decide +kernel)
set_option maxRecDepth 20000 in
theorem gX0_putSum_X0_orderOfSizes : GoodIn wsX0_putSum (wsV RX0 91 RX0 yX0_orderOfSizes wsX0_orderOfSizes) := goodIn_app (goodIn_of _ (by decide +kernel)) ggX0_putSum_X0_orderOfSizes
set_option maxRecDepth 20000 in
theorem ggX0_putSum_X0_subtractSizes : GoodIn wsX0_putSum wsX0_subtractSizes := goodIn_r _ [32, 7, 8, 13, 14, 15, 16, 17, 18, 41, 42, 43, 44, 45, 46] (by decide +kernel) (by decide +kernel)
set_option maxRecDepth 20000 in
theorem gX0_putSum_X0_subtractSizes : GoodIn wsX0_putSum (wsV RX0 116 RX0 yX0_subtractSizes wsX0_subtractSizes) := goodIn_app (goodIn_of _ (by decide +kernel)) ggX0_putSum_X0_subtractSizes
set_option maxRecDepth 20000 in
theorem ggX0_putSum_X0_keepResult : GoodIn wsX0_putSum wsX0_keepResult := goodIn_r _ [36, 7, 13, 37, 38, 39, 40, 8, 1, 41, 42, 43, 44, 45, 46] (by decide +kernel) (by decide +kernel)
set_option maxRecDepth 20000 in
theorem gX0_putSum_X0_keepResult : GoodIn wsX0_putSum (wsV RX0 40 RX0 yX0_keepResult wsX0_keepResult) := goodIn_app (goodIn_of _ (by decide +kernel)) ggX0_putSum_X0_keepResult
theorem dX0_putSum_0 : decode cX0_putSum 0 = .ok (.aload_n 0, 1) := by decide +kernel
theorem dX0_putSum_1 : decode cX0_putSum 1 = .ok (.getfield 18, 3) := by decide +kernel
theorem dX0_putSum_4 : decode cX0_putSum 4 = .ok (.iload_n 2, 1) := by decide +kernel
theorem dX0_putSum_5 : decode cX0_putSum 5 = .ok (.iaload, 1) := by decide +kernel
theorem dX0_putSum_6 : decode cX0_putSum 6 = .ok (.ifCond .ne 8, 3) := by decide +kernel
theorem dX0_putSum_9 : decode cX0_putSum 9 = .ok (.iload 4, 2) := by decide +kernel
theorem dX0_putSum_11 : decode cX0_putSum 11 = .ok (.goto 9, 3) := by decide +kernel
theorem dX0_putSum_14 : decode cX0_putSum 14 = .ok (.aload_n 0, 1) := by decide +kernel
theorem dX0_putSum_15 : decode cX0_putSum 15 = .ok (.getfield 18, 3) := by decide +kernel
theorem dX0_putSum_18 : decode cX0_putSum 18 = .ok (.iload_n 2, 1) := by decide +kernel
theorem dX0_putSum_19 : decode cX0_putSum 19 = .ok (.iaload, 1) := by decide +kernel
theorem dX0_putSum_20 : decode cX0_putSum 20 = .ok (.istore 5, 2) := by decide +kernel
theorem dX0_putSum_22 : decode cX0_putSum 22 = .ok (.aload_n 0, 1) := by decide +kernel
theorem dX0_putSum_23 : decode cX0_putSum 23 = .ok (.getfield 18, 3) := by decide +kernel
theorem dX0_putSum_26 : decode cX0_putSum 26 = .ok (.iload_n 2, 1) := by decide +kernel
theorem dX0_putSum_27 : decode cX0_putSum 27 = .ok (.iaload, 1) := by decide +kernel
theorem dX0_putSum_28 : decode cX0_putSum 28 = .ok (.iload 4, 2) := by decide +kernel
theorem dX0_putSum_30 : decode cX0_putSum 30 = .ok (.imul, 1) := by decide +kernel
theorem dX0_putSum_31 : decode cX0_putSum 31 = .ok (.ifCond .lt 16, 3) := by decide +kernel
theorem dX0_putSum_34 : decode cX0_putSum 34 = .ok (.aload_n 0, 1) := by decide +kernel
theorem dX0_putSum_35 : decode cX0_putSum 35 = .ok (.iload_n 2, 1) := by decide +kernel
theorem dX0_putSum_36 : decode cX0_putSum 36 = .ok (.iload_n 3, 1) := by decide +kernel
theorem dX0_putSum_37 : decode cX0_putSum 37 = .ok (.invokevirtual 113, 3) := by decide +kernel
theorem dX0_putSum_40 : decode cX0_putSum 40 = .ok (.aload_n 0, 1) := by decide +kernel
theorem dX0_putSum_41 : decode cX0_putSum 41 = .ok (.invokevirtual 64, 3) := by decide +kernel
theorem dX0_putSum_44 : decode cX0_putSum 44 = .ok (.goto 31, 3) := by decide +kernel
theorem dX0_putSum_47 : decode cX0_putSum 47 = .ok (.aload_n 0, 1) := by decide +kernel
theorem dX0_putSum_48 : decode cX0_putSum 48 = .ok (.iload_n 2, 1) := by decide +kernel
theorem dX0_putSum_49 : decode cX0_putSum 49 = .ok (.iload_n 3, 1) := by decide +kernel
theorem dX0_putSum_50 : decode cX0_putSum 50 = .ok (.invokevirtual 91, 3) := by decide +kernel
theorem dX0_putSum_53 : decode cX0_putSum 53 = .ok (.ifCond .lt 12, 3) := by decide +kernel
theorem dX0_putSum_56 : decode cX0_putSum 56 = .ok (.aload_n 0, 1) := by decide +kernel
theorem dX0_putSum_57 : decode cX0_putSum 57 = .ok (.iload_n 2, 1) := by decide +kernel
theorem dX0_putSum_58 : decode cX0_putSum 58 = .ok (.iload_n 3, 1) := by decide +kernel
theorem dX0_putSum_59 : decode cX0_putSum 59 = .ok (.invokevirtual 116, 3) := by decide +kernel
theorem dX0_putSum_62 : decode cX0_putSum 62 = .ok (.goto 13, 3) := by decide +kernel
theorem dX0_putSum_65 : decode cX0_putSum 65 = .ok (.aload_n 0, 1) := by decide +kernel
theorem dX0_putSum_66 : decode cX0_putSum 66 = .ok (.iload_n 3, 1) := by decide +kernel
theorem dX0_putSum_67 : decode cX0_putSum 67 = .ok (.iload_n 2, 1) := by decide +kernel
theorem dX0_putSum_68 : decode cX0_putSum 68 = .ok (.invokevirtual 116, 3) := by decide +kernel
theorem dX0_putSum_71 : decode cX0_putSum 71 = .ok (.iload 4, 2) := by decide +kernel
theorem dX0_putSum_73 : decode cX0_putSum 73 = .ok (.istore 5, 2) := by decide +kernel
theorem dX0_putSum_75 : decode cX0_putSum 75 = .ok (.aload_n 0, 1) := by decide +kernel
theorem dX0_putSum_76 : decode cX0_putSum 76 = .ok (.iload_n 1, 1) := by decide +kernel
theorem dX0_putSum_77 : decode cX0_putSum 77 = .ok (.iload 5, 2) := by decide +kernel
theorem dX0_putSum_79 : decode cX0_putSum 79 = .ok (.invokevirtual 40, 3) := by decide +kernel
theorem dX0_putSum_82 : decode cX0_putSum 82 = .ok (.return_, 1) := by decide +kernel
set_option maxRecDepth 20000 in
theorem ggX0_addSizes_J7_fill_53178 : GoodIn wsX0_addSizes wsJ7_fill_53178 := goodIn_r _ [12] (by decide +kernel) (by decide +kernel)
set_option maxRecDepth 20000 in
theorem gX0_addSizes_J7_fill_53178 : GoodIn wsX0_addSizes (va_wsS RX0 34 yJ7_fill_53178 wsJ7_fill_53178) := goodIn_app (goodIn_of _ (by decide +kernel)) ggX0_addSizes_J7_fill_53178
theorem dX0_addSizes_0 : decode cX0_addSizes 0 = .ok (.aload_n 0, 1) := by decide +kernel
theorem dX0_addSizes_1 : decode cX0_addSizes 1 = .ok (.getfield 21, 3) := by decide +kernel
theorem dX0_addSizes_4 : decode cX0_addSizes 4 = .ok (.iconst 0, 1) := by decide +kernel
theorem dX0_addSizes_5 : decode cX0_addSizes 5 = .ok (.invokestatic 34, 3) := by decide +kernel
theorem dX0_addSizes_8 : decode cX0_addSizes 8 = .ok (.aload_n 0, 1) := by decide +kernel
theorem dX0_addSizes_9 : decode cX0_addSizes 9 = .ok (.getfield 14, 3) := by decide +kernel
theorem dX0_addSizes_12 : decode cX0_addSizes 12 = .ok (.iload_n 1, 1) := by decide +kernel
theorem dX0_addSizes_13 : decode cX0_addSizes 13 = .ok (.iaload, 1) := by decide +kernel
theorem dX0_addSizes_14 : decode cX0_addSizes 14 = .ok (.aload_n 0, 1) := by decide +kernel
theorem dX0_addSizes_15 : decode cX0_addSizes 15 = .ok (.getfield 14, 3) := by decide +kernel
theorem dX0_addSizes_18 : decode cX0_addSizes 18 = .ok (.iload_n 2, 1) := by decide +kernel
theorem dX0_addSizes_19 : decode cX0_addSizes 19 = .ok (.iaload, 1) := by decide +kernel
theorem dX0_addSizes_20 : decode cX0_addSizes 20 = .ok (.invokestatic 119, 3) := by decide +kernel
theorem dX0_addSizes_23 : decode cX0_addSizes 23 = .ok (.istore_n 3, 1) := by decide +kernel
theorem dX0_addSizes_24 : decode cX0_addSizes 24 = .ok (.lconst 0, 1) := by decide +kernel
theorem dX0_addSizes_25 : decode cX0_addSizes 25 = .ok (.lstore 4, 2) := by decide +kernel
theorem dX0_addSizes_27 : decode cX0_addSizes 27 = .ok (.iconst 0, 1) := by decide +kernel
theorem dX0_addSizes_28 : decode cX0_addSizes 28 = .ok (.istore 6, 2) := by decide +kernel
theorem dX0_addSizes_30 : decode cX0_addSizes 30 = .ok (.iload 6, 2) := by decide +kernel
theorem dX0_addSizes_32 : decode cX0_addSizes 32 = .ok (.iload_n 3, 1) := by decide +kernel
theorem dX0_addSizes_33 : decode cX0_addSizes 33 = .ok (.if_icmp .ge 60, 3) := by decide +kernel
theorem dX0_addSizes_36 : decode cX0_addSizes 36 = .ok (.aload_n 0, 1) := by decide +kernel
theorem dX0_addSizes_37 : decode cX0_addSizes 37 = .ok (.getfield 11, 3) := by decide +kernel
theorem dX0_addSizes_40 : decode cX0_addSizes 40 = .ok (.iload_n 1, 1) := by decide +kernel
theorem dX0_addSizes_41 : decode cX0_addSizes 41 = .ok (.aaload, 1) := by decide +kernel
theorem dX0_addSizes_42 : decode cX0_addSizes 42 = .ok (.iload 6, 2) := by decide +kernel
theorem dX0_addSizes_44 : decode cX0_addSizes 44 = .ok (.iaload, 1) := by decide +kernel
theorem dX0_addSizes_45 : decode cX0_addSizes 45 = .ok (.i2l, 1) := by decide +kernel
theorem dX0_addSizes_46 : decode cX0_addSizes 46 = .ok (.ldc2_w 108, 3) := by decide +kernel
theorem dX0_addSizes_49 : decode cX0_addSizes 49 = .ok (.land, 1) := by decide +kernel
theorem dX0_addSizes_50 : decode cX0_addSizes 50 = .ok (.aload_n 0, 1) := by decide +kernel
theorem dX0_addSizes_51 : decode cX0_addSizes 51 = .ok (.getfield 11, 3) := by decide +kernel
theorem dX0_addSizes_54 : decode cX0_addSizes 54 = .ok (.iload_n 2, 1) := by decide +kernel
theorem dX0_addSizes_55 : decode cX0_addSizes 55 = .ok (.aaload, 1) := by decide +kernel
theorem dX0_addSizes_56 : decode cX0_addSizes 56 = .ok (.iload 6, 2) := by decide +kernel
theorem dX0_addSizes_58 : decode cX0_addSizes 58 = .ok (.iaload, 1) := by decide +kernel
theorem dX0_addSizes_59 : decode cX0_addSizes 59 = .ok (.i2l, 1) := by decide +kernel
theorem dX0_addSizes_60 : decode cX0_addSizes 60 = .ok (.ldc2_w 108, 3) := by decide +kernel
theorem dX0_addSizes_63 : decode cX0_addSizes 63 = .ok (.land, 1) := by decide +kernel
theorem dX0_addSizes_64 : decode cX0_addSizes 64 = .ok (.ladd, 1) := by decide +kernel
theorem dX0_addSizes_65 : decode cX0_addSizes 65 = .ok (.lload 4, 2) := by decide +kernel
theorem dX0_addSizes_67 : decode cX0_addSizes 67 = .ok (.ladd, 1) := by decide +kernel
theorem dX0_addSizes_68 : decode cX0_addSizes 68 = .ok (.lstore 7, 2) := by decide +kernel
theorem dX0_addSizes_70 : decode cX0_addSizes 70 = .ok (.aload_n 0, 1) := by decide +kernel
theorem dX0_addSizes_71 : decode cX0_addSizes 71 = .ok (.getfield 21, 3) := by decide +kernel
theorem dX0_addSizes_74 : decode cX0_addSizes 74 = .ok (.iload 6, 2) := by decide +kernel
theorem dX0_addSizes_76 : decode cX0_addSizes 76 = .ok (.lload 7, 2) := by decide +kernel
theorem dX0_addSizes_78 : decode cX0_addSizes 78 = .ok (.l2i, 1) := by decide +kernel
theorem dX0_addSizes_79 : decode cX0_addSizes 79 = .ok (.iastore, 1) := by decide +kernel
theorem dX0_addSizes_80 : decode cX0_addSizes 80 = .ok (.lload 7, 2) := by decide +kernel
theorem dX0_addSizes_82 : decode cX0_addSizes 82 = .ok (.bipush 32, 2) := by decide +kernel
theorem dX0_addSizes_84 : decode cX0_addSizes 84 = .ok (.lushr, 1) := by decide +kernel
theorem dX0_addSizes_85 : decode cX0_addSizes 85 = .ok (.lstore 4, 2) := by decide +kernel
theorem dX0_addSizes_87 : decode cX0_addSizes 87 = .ok (.iinc 6 1, 3) := by decide +kernel
theorem dX0_addSizes_90 : decode cX0_addSizes 90 = .ok (.goto (-60), 3) := by decide +kernel
theorem dX0_addSizes_93 : decode cX0_addSizes 93 = .ok (.aload_n 0, 1) := by decide +kernel
theorem dX0_addSizes_94 : decode cX0_addSizes 94 = .ok (.getfield 21, 3) := by decide +kernel
theorem dX0_addSizes_97 : decode cX0_addSizes 97 = .ok (.iload_n 3, 1) := by decide +kernel
theorem dX0_addSizes_98 : decode cX0_addSizes 98 = .ok (.lload 4, 2) := by decide +kernel
theorem dX0_addSizes_100 : decode cX0_addSizes 100 = .ok (.l2i, 1) := by decide +kernel
theorem dX0_addSizes_101 : decode cX0_addSizes 101 = .ok (.iastore, 1) := by decide +kernel
theorem dX0_addSizes_102 : decode cX0_addSizes 102 = .ok (.return_, 1) := by decide +kernel
set_option maxRecDepth 20000 in
theorem ggX0_subtractSizes_J7_fill_53178 : GoodIn wsX0_subtractSizes wsJ7_fill_53178 := goodIn_r _ [8] (by decide +kernel) (by decide +kernel)
set_option maxRecDepth 20000 in
theorem gX0_subtractSizes_J7_fill_53178 : GoodIn wsX0_subtractSizes (va_wsS RX0 34 yJ7_fill_53178 wsJ7_fill_53178) := goodIn_app (goodIn_of _ (by decide +kernel)) ggX0_subtractSizes_J7_fill_53178
theorem dX0_subtractSizes_0 : decode cX0_subtractSizes 0 = .ok (.aload_n 0, 1) := by decide +kernel
theorem dX0_subtractSizes_1 : decode cX0_subtractSizes 1 = .ok (.getfield 21, 3) := by decide +kernel
theorem dX0_subtractSizes_4 : decode cX0_subtractSizes 4 = .ok (.iconst 0, 1) := by decide +kernel
theorem dX0_subtractSizes_5 : decode cX0_subtractSizes 5 = .ok (.invokestatic 34, 3) := by decide +kernel
theorem dX0_subtractSizes_8 : decode cX0_subtractSizes 8 = .ok (.lconst 0, 1) := by decide +kernel
theorem dX0_subtractSizes_9 : decode cX0_subtractSizes 9 = .ok (.lstore_n 3, 1) := by decide +kernel
theorem dX0_subtractSizes_10 : decode cX0_subtractSizes 10 = .ok (.iconst 0, 1) := by decide +kernel
theorem dX0_subtractSizes_11 : decode cX0_subtractSizes 11 = .ok (.istore 5, 2) := by decide +kernel
theorem dX0_subtractSizes_13 : decode cX0_subtractSizes 13 = .ok (.iload 5, 2) := by decide +kernel
theorem dX0_subtractSizes_15 : decode cX0_subtractSizes 15 = .ok (.aload_n 0, 1) := by decide +kernel
theorem dX0_subtractSizes_16 : decode cX0_subtractSizes 16 = .ok (.getfield 14, 3) := by decide +kernel
theorem dX0_subtractSizes_19 : decode cX0_subtractSizes 19 = .ok (.iload_n 1, 1) := by decide +kernel
theorem dX0_subtractSizes_20 : decode cX0_subtractSizes 20 = .ok (.iaload, 1) := by decide +kernel
theorem dX0_subtractSizes_21 : decode cX0_subtractSizes 21 = .ok (.if_icmp .ge 65, 3) := by decide +kernel
theorem dX0_subtractSizes_24 : decode cX0_subtractSizes 24 = .ok (.aload_n 0, 1) := by decide +kernel
theorem dX0_subtractSizes_25 : decode cX0_subtractSizes 25 = .ok (.getfield 11, 3) := by decide +kernel
theorem dX0_subtractSizes_28 : decode cX0_subtractSizes 28 = .ok (.iload_n 1, 1) := by decide +kernel
theorem dX0_subtractSizes_29 : decode cX0_subtractSizes 29 = .ok (.aaload, 1) := by decide +kernel
theorem dX0_subtractSizes_30 : decode cX0_subtractSizes 30 = .ok (.iload 5, 2) := by decide +kernel
theorem dX0_subtractSizes_32 : decode cX0_subtractSizes 32 = .ok (.iaload, 1) := by decide +kernel
theorem dX0_subtractSizes_33 : decode cX0_subtractSizes 33 = .ok (.i2l, 1) := by decide +kernel
theorem dX0_subtractSizes_34 : decode cX0_subtractSizes 34 = .ok (.ldc2_w 108, 3) := by decide +kernel
theorem dX0_subtractSizes_37 : decode cX0_subtractSizes 37 = .ok (.land, 1) := by decide +kernel
theorem dX0_subtractSizes_38 : decode cX0_subtractSizes 38 = .ok (.aload_n 0, 1) := by decide +kernel
theorem dX0_subtractSizes_39 : decode cX0_subtractSizes 39 = .ok (.getfield 11, 3) := by decide +kernel
theorem dX0_subtractSizes_42 : decode cX0_subtractSizes 42 = .ok (.iload_n 2, 1) := by decide +kernel
theorem dX0_subtractSizes_43 : decode cX0_subtractSizes 43 = .ok (.aaload, 1) := by decide +kernel
theorem dX0_subtractSizes_44 : decode cX0_subtractSizes 44 = .ok (.iload 5, 2) := by decide +kernel
theorem dX0_subtractSizes_46 : decode cX0_subtractSizes 46 = .ok (.iaload, 1) := by decide +kernel
theorem dX0_subtractSizes_47 : decode cX0_subtractSizes 47 = .ok (.i2l, 1) := by decide +kernel
theorem dX0_subtractSizes_48 : decode cX0_subtractSizes 48 = .ok (.ldc2_w 108, 3) := by decide +kernel
theorem dX0_subtractSizes_51 : decode cX0_subtractSizes 51 = .ok (.land, 1) := by decide +kernel
theorem dX0_subtractSizes_52 : decode cX0_subtractSizes 52 = .ok (.lsub, 1) := by decide +kernel
theorem dX0_subtractSizes_53 : decode cX0_subtractSizes 53 = .ok (.lload_n 3, 1) := by decide +kernel
theorem dX0_subtractSizes_54 : decode cX0_subtractSizes 54 = .ok (.lsub, 1) := by decide +kernel
theorem dX0_subtractSizes_55 : decode cX0_subtractSizes 55 = .ok (.lstore 6, 2) := by decide +kernel
theorem dX0_subtractSizes_57 : decode cX0_subtractSizes 57 = .ok (.aload_n 0, 1) := by decide +kernel
theorem dX0_subtractSizes_58 : decode cX0_subtractSizes 58 = .ok (.getfield 21, 3) := by decide +kernel
theorem dX0_subtractSizes_61 : decode cX0_subtractSizes 61 = .ok (.iload 5, 2) := by decide +kernel
theorem dX0_subtractSizes_63 : decode cX0_subtractSizes 63 = .ok (.lload 6, 2) := by decide +kernel
theorem dX0_subtractSizes_65 : decode cX0_subtractSizes 65 = .ok (.l2i, 1) := by decide +kernel
theorem dX0_subtractSizes_66 : decode cX0_subtractSizes 66 = .ok (.iastore, 1) := by decide +kernel
theorem dX0_subtractSizes_67 : decode cX0_subtractSizes 67 = .ok (.lload 6, 2) := by decide +kernel
theorem dX0_subtractSizes_69 : decode cX0_subtractSizes 69 = .ok (.lconst 0, 1) := by decide +kernel
theorem dX0_subtractSizes_70 : decode cX0_subtractSizes 70 = .ok (.lcmp, 1) := by decide +kernel
theorem dX0_subtractSizes_71 : decode cX0_subtractSizes 71 = .ok (.ifCond .ge 7, 3) := by decide +kernel
theorem dX0_subtractSizes_74 : decode cX0_subtractSizes 74 = .ok (.lconst 1, 1) := by decide +kernel
theorem dX0_subtractSizes_75 : decode cX0_subtractSizes 75 = .ok (.goto 4, 3) := by decide +kernel
theorem dX0_subtractSizes_78 : decode cX0_subtractSizes 78 = .ok (.lconst 0, 1) := by decide +kernel
theorem dX0_subtractSizes_79 : decode cX0_subtractSizes 79 = .ok (.lstore_n 3, 1) := by decide +kernel
theorem dX0_subtractSizes_80 : decode cX0_subtractSizes 80 = .ok (.iinc 5 1, 3) := by decide +kernel
theorem dX0_subtractSizes_83 : decode cX0_subtractSizes 83 = .ok (.goto (-70), 3) := by decide +kernel
theorem dX0_subtractSizes_86 : decode cX0_subtractSizes 86 = .ok (.return_, 1) := by decide +kernel
set_option maxRecDepth 20000 in
theorem ggX0_multiplySizes_J7_fill_53178 : GoodIn wsX0_multiplySizes wsJ7_fill_53178 := goodIn_r _ [8] (by decide +kernel) (by decide +kernel)
set_option maxRecDepth 20000 in
theorem gX0_multiplySizes_J7_fill_53178 : GoodIn wsX0_multiplySizes (va_wsS RX0 34 yJ7_fill_53178 wsJ7_fill_53178) := goodIn_app (goodIn_of _ (by decide +kernel)) ggX0_multiplySizes_J7_fill_53178
set_option maxRecDepth 20000 in
theorem ggX0_multiplySizes_X0_addMultiple : GoodIn wsX0_multiplySizes wsX0_addMultiple := goodIn_r _ [13, 3, 2, 4, 1, 14, 15, 16, 17, 18, 19] (by decide +kernel) (by decide +kernel)
set_option maxRecDepth 20000 in
theorem gX0_multiplySizes_X0_addMultiple : GoodIn wsX0_multiplySizes (wsV RX0 124 RX0 yX0_addMultiple wsX0_addMultiple) := goodIn_app (goodIn_of _ (by decide +kernel)) ggX0_multiplySizes_X0_addMultiple
theorem dX0_multiplySizes_0 : decode cX0_multiplySizes 0 = .ok (.aload_n 0, 1) := by decide +kernel
theorem dX0_multiplySizes_1 : decode cX0_multiplySizes 1 = .ok (.getfield 21, 3) := by decide +kernel
theorem dX0_multiplySizes_4 : decode cX0_multiplySizes 4 = .ok (.iconst 0, 1) := by decide +kernel
theorem dX0_multiplySizes_5 : decode cX0_multiplySizes 5 = .ok (.invokestatic 34, 3) := by decide +kernel
theorem dX0_multiplySizes_8 : decode cX0_multiplySizes 8 = .ok (.iconst 0, 1) := by decide +kernel
theorem dX0_multiplySizes_9 : decode cX0_multiplySizes 9 = .ok (.istore_n 3, 1) := by decide +kernel
theorem dX0_multiplySizes_10 : decode cX0_multiplySizes 10 = .ok (.iload_n 3, 1) := by decide +kernel
theorem dX0_multiplySizes_11 : decode cX0_multiplySizes 11 = .ok (.aload_n 0, 1) := by decide +kernel
theorem dX0_multiplySizes_12 : decode cX0_multiplySizes 12 = .ok (.getfield 14, 3) := by decide +kernel
theorem dX0_multiplySizes_15 : decode cX0_multiplySizes 15 = .ok (.iload_n 1, 1) := by decide +kernel
theorem dX0_multiplySizes_16 : decode cX0_multiplySizes 16 = .ok (.iaload, 1) := by decide +kernel
theorem dX0_multiplySizes_17 : decode cX0_multiplySizes 17 = .ok (.if_icmp .ge 28, 3) := by decide +kernel
theorem dX0_multiplySizes_20 : decode cX0_multiplySizes 20 = .ok (.aload_n 0, 1) := by decide +kernel
theorem dX0_multiplySizes_21 : decode cX0_multiplySizes 21 = .ok (.iload_n 3, 1) := by decide +kernel
theorem dX0_multiplySizes_22 : decode cX0_multiplySizes 22 = .ok (.iload_n 2, 1) := by decide +kernel
theorem dX0_multiplySizes_23 : decode cX0_multiplySizes 23 = .ok (.aload_n 0, 1) := by decide +kernel
theorem dX0_multiplySizes_24 : decode cX0_multiplySizes 24 = .ok (.getfield 11, 3) := by decide +kernel
theorem dX0_multiplySizes_27 : decode cX0_multiplySizes 27 = .ok (.iload_n 1, 1) := by decide +kernel
theorem dX0_multiplySizes_28 : decode cX0_multiplySizes 28 = .ok (.aaload, 1) := by decide +kernel
theorem dX0_multiplySizes_29 : decode cX0_multiplySizes 29 = .ok (.iload_n 3, 1) := by decide +kernel
theorem dX0_multiplySizes_30 : decode cX0_multiplySizes 30 = .ok (.iaload, 1) := by decide +kernel
theorem dX0_multiplySizes_31 : decode cX0_multiplySizes 31 = .ok (.i2l, 1) := by decide +kernel
theorem dX0_multiplySizes_32 : decode cX0_multiplySizes 32 = .ok (.ldc2_w 108, 3) := by decide +kernel
theorem dX0_multiplySizes_35 : decode cX0_multiplySizes 35 = .ok (.land, 1) := by decide +kernel
theorem dX0_multiplySizes_36 : decode cX0_multiplySizes 36 = .ok (.invokevirtual 124, 3) := by decide +kernel
theorem dX0_multiplySizes_39 : decode cX0_multiplySizes 39 = .ok (.iinc 3 1, 3) := by decide +kernel
theorem dX0_multiplySizes_42 : decode cX0_multiplySizes 42 = .ok (.goto (-32), 3) := by decide +kernel
theorem dX0_multiplySizes_45 : decode cX0_multiplySizes 45 = .ok (.return_, 1) := by decide +kernel
theorem dX0_addMultiple_0 : decode cX0_addMultiple 0 = .ok (.aload_n 0, 1) := by decide +kernel
theorem dX0_addMultiple_1 : decode cX0_addMultiple 1 = .ok (.getfield 11, 3) := by decide +kernel
theorem dX0_addMultiple_4 : decode cX0_addMultiple 4 = .ok (.iload_n 2, 1) := by decide +kernel
theorem dX0_addMultiple_5 : decode cX0_addMultiple 5 = .ok (.aaload, 1) := by decide +kernel
theorem dX0_addMultiple_6 : decode cX0_addMultiple 6 = .ok (.astore 5, 2) := by decide +kernel
theorem dX0_addMultiple_8 : decode cX0_addMultiple 8 = .ok (.aload_n 0, 1) := by decide +kernel
theorem dX0_addMultiple_9 : decode cX0_addMultiple 9 = .ok (.getfield 14, 3) := by decide +kernel
theorem dX0_addMultiple_12 : decode cX0_addMultiple 12 = .ok (.iload_n 2, 1) := by decide +kernel
theorem dX0_addMultiple_13 : decode cX0_addMultiple 13 = .ok (.iaload, 1) := by decide +kernel
theorem dX0_addMultiple_14 : decode cX0_addMultiple 14 = .ok (.istore 6, 2) := by decide +kernel
theorem dX0_addMultiple_16 : decode cX0_addMultiple 16 = .ok (.lconst 0, 1) := by decide +kernel
theorem dX0_addMultiple_17 : decode cX0_addMultiple 17 = .ok (.lstore 7, 2) := by decide +kernel
theorem dX0_addMultiple_19 : decode cX0_addMultiple 19 = .ok (.iconst 0, 1) := by decide +kernel
theorem dX0_addMultiple_20 : decode cX0_addMultiple 20 = .ok (.istore 9, 2) := by decide +kernel
theorem dX0_addMultiple_22 : decode cX0_addMultiple 22 = .ok (.iload 9, 2) := by decide +kernel
theorem dX0_addMultiple_24 : decode cX0_addMultiple 24 = .ok (.iload 6, 2) := by decide +kernel
theorem dX0_addMultiple_26 : decode cX0_addMultiple 26 = .ok (.if_icmp .ge 60, 3) := by decide +kernel
theorem dX0_addMultiple_29 : decode cX0_addMultiple 29 = .ok (.lload_n 3, 1) := by decide +kernel
theorem dX0_addMultiple_30 : decode cX0_addMultiple 30 = .ok (.aload 5, 2) := by decide +kernel
theorem dX0_addMultiple_32 : decode cX0_addMultiple 32 = .ok (.iload 9, 2) := by decide +kernel
theorem dX0_addMultiple_34 : decode cX0_addMultiple 34 = .ok (.iaload, 1) := by decide +kernel
theorem dX0_addMultiple_35 : decode cX0_addMultiple 35 = .ok (.i2l, 1) := by decide +kernel
theorem dX0_addMultiple_36 : decode cX0_addMultiple 36 = .ok (.ldc2_w 108, 3) := by decide +kernel
theorem dX0_addMultiple_39 : decode cX0_addMultiple 39 = .ok (.land, 1) := by decide +kernel
theorem dX0_addMultiple_40 : decode cX0_addMultiple 40 = .ok (.lmul, 1) := by decide +kernel
theorem dX0_addMultiple_41 : decode cX0_addMultiple 41 = .ok (.aload_n 0, 1) := by decide +kernel
theorem dX0_addMultiple_42 : decode cX0_addMultiple 42 = .ok (.getfield 21, 3) := by decide +kernel
theorem dX0_addMultiple_45 : decode cX0_addMultiple 45 = .ok (.iload_n 1, 1) := by decide +kernel
theorem dX0_addMultiple_46 : decode cX0_addMultiple 46 = .ok (.iload 9, 2) := by decide +kernel
theorem dX0_addMultiple_48 : decode cX0_addMultiple 48 = .ok (.iadd, 1) := by decide +kernel
theorem dX0_addMultiple_49 : decode cX0_addMultiple 49 = .ok (.iaload, 1) := by decide +kernel
theorem dX0_addMultiple_50 : decode cX0_addMultiple 50 = .ok (.i2l, 1) := by decide +kernel
theorem dX0_addMultiple_51 : decode cX0_addMultiple 51 = .ok (.ldc2_w 108, 3) := by decide +kernel
theorem dX0_addMultiple_54 : decode cX0_addMultiple 54 = .ok (.land, 1) := by decide +kernel
theorem dX0_addMultiple_55 : decode cX0_addMultiple 55 = .ok (.ladd, 1) := by decide +kernel
theorem dX0_addMultiple_56 : decode cX0_addMultiple 56 = .ok (.lload 7, 2) := by decide +kernel
theorem dX0_addMultiple_58 : decode cX0_addMultiple 58 = .ok (.ladd, 1) := by decide +kernel
theorem dX0_addMultiple_59 : decode cX0_addMultiple 59 = .ok (.lstore 10, 2) := by decide +kernel
theorem dX0_addMultiple_61 : decode cX0_addMultiple 61 = .ok (.aload_n 0, 1) := by decide +kernel
theorem dX0_addMultiple_62 : decode cX0_addMultiple 62 = .ok (.getfield 21, 3) := by decide +kernel
theorem dX0_addMultiple_65 : decode cX0_addMultiple 65 = .ok (.iload_n 1, 1) := by decide +kernel
theorem dX0_addMultiple_66 : decode cX0_addMultiple 66 = .ok (.iload 9, 2) := by decide +kernel
theorem dX0_addMultiple_68 : decode cX0_addMultiple 68 = .ok (.iadd, 1) := by decide +kernel
theorem dX0_addMultiple_69 : decode cX0_addMultiple 69 = .ok (.lload 10, 2) := by decide +kernel
theorem dX0_addMultiple_71 : decode cX0_addMultiple 71 = .ok (.l2i, 1) := by decide +kernel
theorem dX0_addMultiple_72 : decode cX0_addMultiple 72 = .ok (.iastore, 1) := by decide +kernel
theorem dX0_addMultiple_73 : decode cX0_addMultiple 73 = .ok (.lload 10, 2) := by decide +kernel
theorem dX0_addMultiple_75 : decode cX0_addMultiple 75 = .ok (.bipush 32, 2) := by decide +kernel
theorem dX0_addMultiple_77 : decode cX0_addMultiple 77 = .ok (.lushr, 1) := by decide +kernel
theorem dX0_addMultiple_78 : decode cX0_addMultiple 78 = .ok (.lstore 7, 2) := by decide +kernel
theorem dX0_addMultiple_80 : decode cX0_addMultiple 80 = .ok (.iinc 9 1, 3) := by decide +kernel
theorem dX0_addMultiple_83 : decode cX0_addMultiple 83 = .ok (.goto (-61), 3) := by decide +kernel
theorem dX0_addMultiple_86 : decode cX0_addMultiple 86 = .ok (.aload_n 0, 1) := by decide +kernel
theorem dX0_addMultiple_87 : decode cX0_addMultiple 87 = .ok (.getfield 21, 3) := by decide +kernel
theorem dX0_addMultiple_90 : decode cX0_addMultiple 90 = .ok (.iload_n 1, 1) := by decide +kernel
theorem dX0_addMultiple_91 : decode cX0_addMultiple 91 = .ok (.iload 6, 2) := by decide +kernel
theorem dX0_addMultiple_93 : decode cX0_addMultiple 93 = .ok (.iadd, 1) := by decide +kernel
theorem dX0_addMultiple_94 : decode cX0_addMultiple 94 = .ok (.lload 7, 2) := by decide +kernel
theorem dX0_addMultiple_96 : decode cX0_addMultiple 96 = .ok (.l2i, 1) := by decide +kernel
theorem dX0_addMultiple_97 : decode cX0_addMultiple 97 = .ok (.iastore, 1) := by decide +kernel
theorem dX0_addMultiple_98 : decode cX0_addMultiple 98 = .ok (.return_, 1) := by decide +kernel
set_option maxRecDepth 20000 in
theorem ggX0_divideSizes_X0_moveUp : GoodIn wsX0_divideSizes wsX0_moveUp := goodIn_r _ [9, 4, 10, 11, 12, 13, 14, 15, 43, 44, 45, 46, 47, 48] (by decide +kernel) (by decide +kernel)
set_option maxRecDepth 20000 in
theorem gX0_divideSizes_X0_moveUp : GoodIn wsX0_divideSizes (wsV RX0 128 RX0 yX0_moveUp wsX0_moveUp) := goodIn_app (goodIn_of _ (by decide +kernel)) ggX0_divideSizes_X0_moveUp
set_option maxRecDepth 20000 in
theorem ggX0_divideSizes_J7_fill_53178 : GoodIn wsX0_divideSizes wsJ7_fill_53178 := goodIn_r _ [15] (by decide +kernel) (by decide +kernel)
set_option maxRecDepth 20000 in
theorem gX0_divideSizes_J7_fill_53178 : GoodIn wsX0_divideSizes (va_wsS RX0 34 yJ7_fill_53178 wsJ7_fill_53178) := goodIn_app (goodIn_of _ (by decide +kernel)) ggX0_divideSizes_J7_fill_53178
set_option maxRecDepth 20000 in
theorem ggX0_divideSizes_X0_takeQuotientDigit : GoodIn wsX0_divideSizes wsX0_takeQuotientDigit := goodIn_r _ [19, 20, 21, 22, 8, 23, 1, 2, 11, 24, 25, 26, 27, 28, 29, 30, 31, 32, 33, 34, 35, 36, 37, 38, 39, 40, 41, 42, 43, 44, 45, 46, 47, 48] (by decide +kernel) (by decide +kernel)
set_option maxRecDepth 20000 in
theorem gX0_divideSizes_X0_takeQuotientDigit : GoodIn wsX0_divideSizes (wsV RX0 132 RX0 yX0_takeQuotientDigit wsX0_takeQuotientDigit) := goodIn_app (goodIn_of _ (by decide +kernel)) ggX0_divideSizes_X0_takeQuotientDigit
theorem dX0_divideSizes_0 : decode cX0_divideSizes 0 = .ok (.aload_n 0, 1) := by decide +kernel
theorem dX0_divideSizes_1 : decode cX0_divideSizes 1 = .ok (.iload_n 1, 1) := by decide +kernel
theorem dX0_divideSizes_2 : decode cX0_divideSizes 2 = .ok (.iload_n 3, 1) := by decide +kernel
theorem dX0_divideSizes_3 : decode cX0_divideSizes 3 = .ok (.aload_n 0, 1) := by decide +kernel
theorem dX0_divideSizes_4 : decode cX0_divideSizes 4 = .ok (.getfield 24, 3) := by decide +kernel
theorem dX0_divideSizes_7 : decode cX0_divideSizes 7 = .ok (.invokevirtual 128, 3) := by decide +kernel
theorem dX0_divideSizes_10 : decode cX0_divideSizes 10 = .ok (.aload_n 0, 1) := by decide +kernel
theorem dX0_divideSizes_11 : decode cX0_divideSizes 11 = .ok (.iload_n 2, 1) := by decide +kernel
theorem dX0_divideSizes_12 : decode cX0_divideSizes 12 = .ok (.iload_n 3, 1) := by decide +kernel
theorem dX0_divideSizes_13 : decode cX0_divideSizes 13 = .ok (.aload_n 0, 1) := by decide +kernel
theorem dX0_divideSizes_14 : decode cX0_divideSizes 14 = .ok (.getfield 27, 3) := by decide +kernel
theorem dX0_divideSizes_17 : decode cX0_divideSizes 17 = .ok (.invokevirtual 128, 3) := by decide +kernel
theorem dX0_divideSizes_20 : decode cX0_divideSizes 20 = .ok (.aload_n 0, 1) := by decide +kernel
theorem dX0_divideSizes_21 : decode cX0_divideSizes 21 = .ok (.getfield 21, 3) := by decide +kernel
theorem dX0_divideSizes_24 : decode cX0_divideSizes 24 = .ok (.iconst 0, 1) := by decide +kernel
theorem dX0_divideSizes_25 : decode cX0_divideSizes 25 = .ok (.invokestatic 34, 3) := by decide +kernel
theorem dX0_divideSizes_28 : decode cX0_divideSizes 28 = .ok (.aload_n 0, 1) := by decide +kernel
theorem dX0_divideSizes_29 : decode cX0_divideSizes 29 = .ok (.getfield 14, 3) := by decide +kernel
theorem dX0_divideSizes_32 : decode cX0_divideSizes 32 = .ok (.iload_n 2, 1) := by decide +kernel
theorem dX0_divideSizes_33 : decode cX0_divideSizes 33 = .ok (.iaload, 1) := by decide +kernel
theorem dX0_divideSizes_34 : decode cX0_divideSizes 34 = .ok (.istore 4, 2) := by decide +kernel
theorem dX0_divideSizes_36 : decode cX0_divideSizes 36 = .ok (.aload_n 0, 1) := by decide +kernel
theorem dX0_divideSizes_37 : decode cX0_divideSizes 37 = .ok (.getfield 14, 3) := by decide +kernel
theorem dX0_divideSizes_40 : decode cX0_divideSizes 40 = .ok (.iload_n 1, 1) := by decide +kernel
theorem dX0_divideSizes_41 : decode cX0_divideSizes 41 = .ok (.iaload, 1) := by decide +kernel
theorem dX0_divideSizes_42 : decode cX0_divideSizes 42 = .ok (.iload 4, 2) := by decide +kernel
theorem dX0_divideSizes_44 : decode cX0_divideSizes 44 = .ok (.isub, 1) := by decide +kernel
theorem dX0_divideSizes_45 : decode cX0_divideSizes 45 = .ok (.istore 5, 2) := by decide +kernel
theorem dX0_divideSizes_47 : decode cX0_divideSizes 47 = .ok (.iload 5, 2) := by decide +kernel
theorem dX0_divideSizes_49 : decode cX0_divideSizes 49 = .ok (.ifCond .lt 24, 3) := by decide +kernel
theorem dX0_divideSizes_52 : decode cX0_divideSizes 52 = .ok (.aload_n 0, 1) := by decide +kernel
theorem dX0_divideSizes_53 : decode cX0_divideSizes 53 = .ok (.getfield 21, 3) := by decide +kernel
theorem dX0_divideSizes_56 : decode cX0_divideSizes 56 = .ok (.iload 5, 2) := by decide +kernel
theorem dX0_divideSizes_58 : decode cX0_divideSizes 58 = .ok (.aload_n 0, 1) := by decide +kernel
theorem dX0_divideSizes_59 : decode cX0_divideSizes 59 = .ok (.iload 5, 2) := by decide +kernel
theorem dX0_divideSizes_61 : decode cX0_divideSizes 61 = .ok (.iload 4, 2) := by decide +kernel
theorem dX0_divideSizes_63 : decode cX0_divideSizes 63 = .ok (.invokevirtual 132, 3) := by decide +kernel
theorem dX0_divideSizes_66 : decode cX0_divideSizes 66 = .ok (.iastore, 1) := by decide +kernel
theorem dX0_divideSizes_67 : decode cX0_divideSizes 67 = .ok (.iinc 5 (-1), 3) := by decide +kernel
theorem dX0_divideSizes_70 : decode cX0_divideSizes 70 = .ok (.goto (-23), 3) := by decide +kernel
theorem dX0_divideSizes_73 : decode cX0_divideSizes 73 = .ok (.return_, 1) := by decide +kernel
set_option maxRecDepth 20000 in
theorem ggX0_takeQuotientDigit_X0_guessDigit : GoodIn wsX0_takeQuotientDigit wsX0_guessDigit := goodIn_r _ [5, 6, 7, 8, 9, 10, 11, 12, 13, 14, 4, 15, 16, 17, 18, 19, 28, 29, 30, 31, 32, 33] (by decide +kernel) (by decide +kernel)
set_option maxRecDepth 20000 in
theorem gX0_takeQuotientDigit_X0_guessDigit : GoodIn wsX0_takeQuotientDigit (wsV RX0 135 RX0 yX0_guessDigit wsX0_guessDigit) := goodIn_app (goodIn_of _ (by decide +kernel)) ggX0_takeQuotientDigit_X0_guessDigit
set_option maxRecDepth 20000 in
theorem ggX0_takeQuotientDigit_X0_takeMultiple : GoodIn wsX0_takeQuotientDigit wsX0_takeMultiple := goodIn_r _ [23, 7, 8, 6, 28, 29, 30, 31, 32, 33] (by decide +kernel) (by decide +kernel)
set_option maxRecDepth 20000 in
theorem gX0_takeQuotientDigit_X0_takeMultiple : GoodIn wsX0_takeQuotientDigit (wsV RX0 139 RX0 yX0_takeMultiple wsX0_takeMultiple) := goodIn_app (goodIn_of _ (by decide +kernel)) ggX0_takeQuotientDigit_X0_takeMultiple
set_option maxRecDepth 20000 in
theorem ggX0_takeQuotientDigit_X0_giveBack : GoodIn wsX0_takeQuotientDigit wsX0_giveBack := goodIn_r _ [27, 6, 8, 7, 28, 29, 30, 31, 32, 33] (by decide +kernel) (by decide +kernel)
set_option maxRecDepth 20000 in
theorem gX0_takeQuotientDigit_X0_giveBack : GoodIn wsX0_takeQuotientDigit (wsV RX0 143 RX0 yX0_giveBack wsX0_giveBack) := goodIn_app (goodIn_of _ (by decide +kernel)) ggX0_takeQuotientDigit_X0_giveBack
theorem dX0_takeQuotientDigit_0 : decode cX0_takeQuotientDigit 0 = .ok (.aload_n 0, 1) := by decide +kernel
theorem dX0_takeQuotientDigit_1 : decode cX0_takeQuotientDigit 1 = .ok (.iload_n 1, 1) := by decide +kernel
theorem dX0_takeQuotientDigit_2 : decode cX0_takeQuotientDigit 2 = .ok (.iload_n 2, 1) := by decide +kernel
theorem dX0_takeQuotientDigit_3 : decode cX0_takeQuotientDigit 3 = .ok (.iadd, 1) := by decide +kernel
theorem dX0_takeQuotientDigit_4 : decode cX0_takeQuotientDigit 4 = .ok (.iload_n 2, 1) := by decide +kernel
theorem dX0_takeQuotientDigit_5 : decode cX0_takeQuotientDigit 5 = .ok (.iconst 1, 1) := by decide +kernel
theorem dX0_takeQuotientDigit_6 : decode cX0_takeQuotientDigit 6 = .ok (.isub, 1) := by decide +kernel
theorem dX0_takeQuotientDigit_7 : decode cX0_takeQuotientDigit 7 = .ok (.invokevirtual 135, 3) := by decide +kernel
theorem dX0_takeQuotientDigit_10 : decode cX0_takeQuotientDigit 10 = .ok (.lstore_n 3, 1) := by decide +kernel
theorem dX0_takeQuotientDigit_11 : decode cX0_takeQuotientDigit 11 = .ok (.aload_n 0, 1) := by decide +kernel
theorem dX0_takeQuotientDigit_12 : decode cX0_takeQuotientDigit 12 = .ok (.iload_n 1, 1) := by decide +kernel
theorem dX0_takeQuotientDigit_13 : decode cX0_takeQuotientDigit 13 = .ok (.iconst 0, 1) := by decide +kernel
theorem dX0_takeQuotientDigit_14 : decode cX0_takeQuotientDigit 14 = .ok (.iload_n 2, 1) := by decide +kernel
theorem dX0_takeQuotientDigit_15 : decode cX0_takeQuotientDigit 15 = .ok (.lload_n 3, 1) := by decide +kernel
theorem dX0_takeQuotientDigit_16 : decode cX0_takeQuotientDigit 16 = .ok (.invokevirtual 139, 3) := by decide +kernel
theorem dX0_takeQuotientDigit_19 : decode cX0_takeQuotientDigit 19 = .ok (.istore 5, 2) := by decide +kernel
theorem dX0_takeQuotientDigit_21 : decode cX0_takeQuotientDigit 21 = .ok (.iconst 0, 1) := by decide +kernel
theorem dX0_takeQuotientDigit_22 : decode cX0_takeQuotientDigit 22 = .ok (.istore 6, 2) := by decide +kernel
theorem dX0_takeQuotientDigit_24 : decode cX0_takeQuotientDigit 24 = .ok (.iload 5, 2) := by decide +kernel
theorem dX0_takeQuotientDigit_26 : decode cX0_takeQuotientDigit 26 = .ok (.ifCond .eq 29, 3) := by decide +kernel
theorem dX0_takeQuotientDigit_29 : decode cX0_takeQuotientDigit 29 = .ok (.iload 6, 2) := by decide +kernel
theorem dX0_takeQuotientDigit_31 : decode cX0_takeQuotientDigit 31 = .ok (.iconst 3, 1) := by decide +kernel
theorem dX0_takeQuotientDigit_32 : decode cX0_takeQuotientDigit 32 = .ok (.if_icmp .ge 23, 3) := by decide +kernel
theorem dX0_takeQuotientDigit_35 : decode cX0_takeQuotientDigit 35 = .ok (.lload_n 3, 1) := by decide +kernel
theorem dX0_takeQuotientDigit_36 : decode cX0_takeQuotientDigit 36 = .ok (.lconst 1, 1) := by decide +kernel
theorem dX0_takeQuotientDigit_37 : decode cX0_takeQuotientDigit 37 = .ok (.lsub, 1) := by decide +kernel
theorem dX0_takeQuotientDigit_38 : decode cX0_takeQuotientDigit 38 = .ok (.lstore_n 3, 1) := by decide +kernel
theorem dX0_takeQuotientDigit_39 : decode cX0_takeQuotientDigit 39 = .ok (.aload_n 0, 1) := by decide +kernel
theorem dX0_takeQuotientDigit_40 : decode cX0_takeQuotientDigit 40 = .ok (.iload_n 1, 1) := by decide +kernel
theorem dX0_takeQuotientDigit_41 : decode cX0_takeQuotientDigit 41 = .ok (.iconst 0, 1) := by decide +kernel
theorem dX0_takeQuotientDigit_42 : decode cX0_takeQuotientDigit 42 = .ok (.iload_n 2, 1) := by decide +kernel
theorem dX0_takeQuotientDigit_43 : decode cX0_takeQuotientDigit 43 = .ok (.lconst 0, 1) := by decide +kernel
theorem dX0_takeQuotientDigit_44 : decode cX0_takeQuotientDigit 44 = .ok (.invokevirtual 143, 3) := by decide +kernel
theorem dX0_takeQuotientDigit_47 : decode cX0_takeQuotientDigit 47 = .ok (.istore 5, 2) := by decide +kernel
theorem dX0_takeQuotientDigit_49 : decode cX0_takeQuotientDigit 49 = .ok (.iinc 6 1, 3) := by decide +kernel
theorem dX0_takeQuotientDigit_52 : decode cX0_takeQuotientDigit 52 = .ok (.goto (-28), 3) := by decide +kernel
theorem dX0_takeQuotientDigit_55 : decode cX0_takeQuotientDigit 55 = .ok (.lload_n 3, 1) := by decide +kernel
theorem dX0_takeQuotientDigit_56 : decode cX0_takeQuotientDigit 56 = .ok (.l2i, 1) := by decide +kernel
theorem dX0_takeQuotientDigit_57 : decode cX0_takeQuotientDigit 57 = .ok (.ireturn, 1) := by decide +kernel
set_option maxRecDepth 20000 in
theorem ggX0_takeRootOfSize_X0_bitsOf : GoodIn wsX0_takeRootOfSize wsX0_bitsOf := goodIn_r _ [7, 8, 9, 10, 11, 6, 12, 61, 62, 63, 64, 65, 66] (by decide +kernel) (by decide +kernel)
set_option maxRecDepth 20000 in
theorem gX0_takeRootOfSize_X0_bitsOf : GoodIn wsX0_takeRootOfSize (wsV RX0 74 RX0 yX0_bitsOf wsX0_bitsOf) := goodIn_app (goodIn_of _ (by decide +kernel)) ggX0_takeRootOfSize_X0_bitsOf
set_option maxRecDepth 20000 in
theorem ggX0_takeRootOfSize_X0_moveUp : GoodIn wsX0_takeRootOfSize wsX0_moveUp := goodIn_r _ [16, 8, 9, 17, 18, 19, 20, 21, 61, 62, 63, 64, 65, 66] (by decide +kernel) (by decide +kernel)
set_option maxRecDepth 20000 in
theorem gX0_takeRootOfSize_X0_moveUp : GoodIn wsX0_takeRootOfSize (wsV RX0 128 RX0 yX0_moveUp wsX0_moveUp) := goodIn_app (goodIn_of _ (by decide +kernel)) ggX0_takeRootOfSize_X0_moveUp
set_option maxRecDepth 20000 in
theorem ggX0_takeRootOfSize_X0_takeFirstRootDigit : GoodIn wsX0_takeRootOfSize wsX0_takeFirstRootDigit := goodIn_r _ [25, 1, 2, 26, 27, 28, 6, 29, 17, 30, 31, 32, 61, 62, 63, 64, 65, 66] (by decide +kernel) (by decide +kernel)
set_option maxRecDepth 20000 in
theorem gX0_takeRootOfSize_X0_takeFirstRootDigit : GoodIn wsX0_takeRootOfSize (wsV RX0 146 RX0 yX0_takeFirstRootDigit wsX0_takeFirstRootDigit) := goodIn_app (goodIn_of _ (by decide +kernel)) ggX0_takeRootOfSize_X0_takeFirstRootDigit
set_option maxRecDepth 20000 in
theorem ggX0_takeRootOfSize_X0_takeRootDigit : GoodIn wsX0_takeRootOfSize wsX0_takeRootDigit := goodIn_r _ [36, 2, 37, 38, 39, 6, 40, 1, 17, 41, 42, 43, 44, 27, 28, 29, 45, 46, 47, 26, 48, 49, 50, 51, 52, 53, 54, 55, 61, 62, 63, 64, 65, 66] (by decide +kernel) (by decide +kernel)
set_option maxRecDepth 20000 in
theorem gX0_takeRootOfSize_X0_takeRootDigit : GoodIn wsX0_takeRootOfSize (wsV RX0 149 RX0 yX0_takeRootDigit wsX0_takeRootDigit) := goodIn_app (goodIn_of _ (by decide +kernel)) ggX0_takeRootOfSize_X0_takeRootDigit
set_option maxRecDepth 20000 in
theorem ggX0_takeRootOfSize_X0_moveDown : GoodIn wsX0_takeRootOfSize wsX0_moveDown := goodIn_r _ [59, 60, 18, 19, 20, 21, 27, 28, 6, 29, 17, 61, 62, 63, 64, 65, 66] (by decide +kernel) (by decide +kernel)
set_option maxRecDepth 20000 in
theorem gX0_takeRootOfSize_X0_moveDown : GoodIn wsX0_takeRootOfSize (wsV RX0 82 RX0 yX0_moveDown wsX0_moveDown) := goodIn_app (goodIn_of _ (by decide +kernel)) ggX0_takeRootOfSize_X0_moveDown
theorem dX0_takeRootOfSize_0 : decode cX0_takeRootOfSize 0 = .ok (.aload_n 0, 1) := by decide +kernel
theorem dX0_takeRootOfSize_1 : decode cX0_takeRootOfSize 1 = .ok (.iload_n 1, 1) := by decide +kernel
theorem dX0_takeRootOfSize_2 : decode cX0_takeRootOfSize 2 = .ok (.invokevirtual 74, 3) := by decide +kernel
theorem dX0_takeRootOfSize_5 : decode cX0_takeRootOfSize 5 = .ok (.istore_n 2, 1) := by decide +kernel
theorem dX0_takeRootOfSize_6 : decode cX0_takeRootOfSize 6 = .ok (.iload_n 2, 1) := by decide +kernel
theorem dX0_takeRootOfSize_7 : decode cX0_takeRootOfSize 7 = .ok (.bipush 65, 2) := by decide +kernel
theorem dX0_takeRootOfSize_9 : decode cX0_takeRootOfSize 9 = .ok (.iadd, 1) := by decide +kernel
theorem dX0_takeRootOfSize_10 : decode cX0_takeRootOfSize 10 = .ok (.bipush 64, 2) := by decide +kernel
theorem dX0_takeRootOfSize_12 : decode cX0_takeRootOfSize 12 = .ok (.idiv, 1) := by decide +kernel
theorem dX0_takeRootOfSize_13 : decode cX0_takeRootOfSize 13 = .ok (.istore_n 3, 1) := by decide +kernel
theorem dX0_takeRootOfSize_14 : decode cX0_takeRootOfSize 14 = .ok (.iload_n 3, 1) := by decide +kernel
theorem dX0_takeRootOfSize_15 : decode cX0_takeRootOfSize 15 = .ok (.bipush 64, 2) := by decide +kernel
theorem dX0_takeRootOfSize_17 : decode cX0_takeRootOfSize 17 = .ok (.imul, 1) := by decide +kernel
theorem dX0_takeRootOfSize_18 : decode cX0_takeRootOfSize 18 = .ok (.iconst 2, 1) := by decide +kernel
theorem dX0_takeRootOfSize_19 : decode cX0_takeRootOfSize 19 = .ok (.isub, 1) := by decide +kernel
theorem dX0_takeRootOfSize_20 : decode cX0_takeRootOfSize 20 = .ok (.iload_n 2, 1) := by decide +kernel
theorem dX0_takeRootOfSize_21 : decode cX0_takeRootOfSize 21 = .ok (.isub, 1) := by decide +kernel
theorem dX0_takeRootOfSize_22 : decode cX0_takeRootOfSize 22 = .ok (.iconst 2, 1) := by decide +kernel
theorem dX0_takeRootOfSize_23 : decode cX0_takeRootOfSize 23 = .ok (.idiv, 1) := by decide +kernel
theorem dX0_takeRootOfSize_24 : decode cX0_takeRootOfSize 24 = .ok (.istore 4, 2) := by decide +kernel
theorem dX0_takeRootOfSize_26 : decode cX0_takeRootOfSize 26 = .ok (.aload_n 0, 1) := by decide +kernel
theorem dX0_takeRootOfSize_27 : decode cX0_takeRootOfSize 27 = .ok (.iload_n 1, 1) := by decide +kernel
theorem dX0_takeRootOfSize_28 : decode cX0_takeRootOfSize 28 = .ok (.iconst 2, 1) := by decide +kernel
theorem dX0_takeRootOfSize_29 : decode cX0_takeRootOfSize 29 = .ok (.iload 4, 2) := by decide +kernel
theorem dX0_takeRootOfSize_31 : decode cX0_takeRootOfSize 31 = .ok (.imul, 1) := by decide +kernel
theorem dX0_takeRootOfSize_32 : decode cX0_takeRootOfSize 32 = .ok (.aload_n 0, 1) := by decide +kernel
theorem dX0_takeRootOfSize_33 : decode cX0_takeRootOfSize 33 = .ok (.getfield 24, 3) := by decide +kernel
theorem dX0_takeRootOfSize_36 : decode cX0_takeRootOfSize 36 = .ok (.invokevirtual 128, 3) := by decide +kernel
theorem dX0_takeRootOfSize_39 : decode cX0_takeRootOfSize 39 = .ok (.aload_n 0, 1) := by decide +kernel
theorem dX0_takeRootOfSize_40 : decode cX0_takeRootOfSize 40 = .ok (.iload_n 3, 1) := by decide +kernel
theorem dX0_takeRootOfSize_41 : decode cX0_takeRootOfSize 41 = .ok (.invokevirtual 146, 3) := by decide +kernel
theorem dX0_takeRootOfSize_44 : decode cX0_takeRootOfSize 44 = .ok (.iload_n 3, 1) := by decide +kernel
theorem dX0_takeRootOfSize_45 : decode cX0_takeRootOfSize 45 = .ok (.iconst 2, 1) := by decide +kernel
theorem dX0_takeRootOfSize_46 : decode cX0_takeRootOfSize 46 = .ok (.isub, 1) := by decide +kernel
theorem dX0_takeRootOfSize_47 : decode cX0_takeRootOfSize 47 = .ok (.istore 5, 2) := by decide +kernel
theorem dX0_takeRootOfSize_49 : decode cX0_takeRootOfSize 49 = .ok (.iload 5, 2) := by decide +kernel
theorem dX0_takeRootOfSize_51 : decode cX0_takeRootOfSize 51 = .ok (.ifCond .lt 16, 3) := by decide +kernel
theorem dX0_takeRootOfSize_54 : decode cX0_takeRootOfSize 54 = .ok (.aload_n 0, 1) := by decide +kernel
theorem dX0_takeRootOfSize_55 : decode cX0_takeRootOfSize 55 = .ok (.iload 5, 2) := by decide +kernel
theorem dX0_takeRootOfSize_57 : decode cX0_takeRootOfSize 57 = .ok (.iload_n 3, 1) := by decide +kernel
theorem dX0_takeRootOfSize_58 : decode cX0_takeRootOfSize 58 = .ok (.invokevirtual 149, 3) := by decide +kernel
theorem dX0_takeRootOfSize_61 : decode cX0_takeRootOfSize 61 = .ok (.iinc 5 (-1), 3) := by decide +kernel
theorem dX0_takeRootOfSize_64 : decode cX0_takeRootOfSize 64 = .ok (.goto (-15), 3) := by decide +kernel
theorem dX0_takeRootOfSize_67 : decode cX0_takeRootOfSize 67 = .ok (.aload_n 0, 1) := by decide +kernel
theorem dX0_takeRootOfSize_68 : decode cX0_takeRootOfSize 68 = .ok (.aload_n 0, 1) := by decide +kernel
theorem dX0_takeRootOfSize_69 : decode cX0_takeRootOfSize 69 = .ok (.getfield 27, 3) := by decide +kernel
theorem dX0_takeRootOfSize_72 : decode cX0_takeRootOfSize 72 = .ok (.iload_n 3, 1) := by decide +kernel
theorem dX0_takeRootOfSize_73 : decode cX0_takeRootOfSize 73 = .ok (.iload 4, 2) := by decide +kernel
theorem dX0_takeRootOfSize_75 : decode cX0_takeRootOfSize 75 = .ok (.iconst 1, 1) := by decide +kernel
theorem dX0_takeRootOfSize_76 : decode cX0_takeRootOfSize 76 = .ok (.iadd, 1) := by decide +kernel
theorem dX0_takeRootOfSize_77 : decode cX0_takeRootOfSize 77 = .ok (.invokevirtual 82, 3) := by decide +kernel
theorem dX0_takeRootOfSize_80 : decode cX0_takeRootOfSize 80 = .ok (.return_, 1) := by decide +kernel
set_option maxRecDepth 20000 in
theorem ggX0_takeFirstRootDigit_X0_pairOf : GoodIn wsX0_takeFirstRootDigit wsX0_pairOf := goodIn_r _ [7, 8] (by decide +kernel) (by decide +kernel)
set_option maxRecDepth 20000 in
theorem gX0_takeFirstRootDigit_X0_pairOf : GoodIn wsX0_takeFirstRootDigit (va_wsS RX0 102 yX0_pairOf wsX0_pairOf) := goodIn_app (goodIn_of _ (by decide +kernel)) ggX0_takeFirstRootDigit_X0_pairOf
set_option maxRecDepth 20000 in
theorem ggX0_takeFirstRootDigit_X0_rootOfPair : GoodIn wsX0_takeFirstRootDigit wsX0_rootOfPair := goodIn_r _ [11] (by decide +kernel) (by decide +kernel)
set_option maxRecDepth 20000 in
theorem gX0_takeFirstRootDigit_X0_rootOfPair : GoodIn wsX0_takeFirstRootDigit (va_wsS RX0 152 yX0_rootOfPair wsX0_rootOfPair) := goodIn_app (goodIn_of _ (by decide +kernel)) ggX0_takeFirstRootDigit_X0_rootOfPair
theorem dX0_takeFirstRootDigit_0 : decode cX0_takeFirstRootDigit 0 = .ok (.iconst 2, 1) := by decide +kernel
theorem dX0_takeFirstRootDigit_1 : decode cX0_takeFirstRootDigit 1 = .ok (.iload_n 1, 1) := by decide +kernel
theorem dX0_takeFirstRootDigit_2 : decode cX0_takeFirstRootDigit 2 = .ok (.imul, 1) := by decide +kernel
theorem dX0_takeFirstRootDigit_3 : decode cX0_takeFirstRootDigit 3 = .ok (.iconst 1, 1) := by decide +kernel
theorem dX0_takeFirstRootDigit_4 : decode cX0_takeFirstRootDigit 4 = .ok (.isub, 1) := by decide +kernel
theorem dX0_takeFirstRootDigit_5 : decode cX0_takeFirstRootDigit 5 = .ok (.istore_n 2, 1) := by decide +kernel
theorem dX0_takeFirstRootDigit_6 : decode cX0_takeFirstRootDigit 6 = .ok (.aload_n 0, 1) := by decide +kernel
theorem dX0_takeFirstRootDigit_7 : decode cX0_takeFirstRootDigit 7 = .ok (.getfield 24, 3) := by decide +kernel
theorem dX0_takeFirstRootDigit_10 : decode cX0_takeFirstRootDigit 10 = .ok (.iload_n 2, 1) := by decide +kernel
theorem dX0_takeFirstRootDigit_11 : decode cX0_takeFirstRootDigit 11 = .ok (.iaload, 1) := by decide +kernel
theorem dX0_takeFirstRootDigit_12 : decode cX0_takeFirstRootDigit 12 = .ok (.i2l, 1) := by decide +kernel
theorem dX0_takeFirstRootDigit_13 : decode cX0_takeFirstRootDigit 13 = .ok (.aload_n 0, 1) := by decide +kernel
theorem dX0_takeFirstRootDigit_14 : decode cX0_takeFirstRootDigit 14 = .ok (.getfield 24, 3) := by decide +kernel
theorem dX0_takeFirstRootDigit_17 : decode cX0_takeFirstRootDigit 17 = .ok (.iload_n 2, 1) := by decide +kernel
theorem dX0_takeFirstRootDigit_18 : decode cX0_takeFirstRootDigit 18 = .ok (.iconst 1, 1) := by decide +kernel
theorem dX0_takeFirstRootDigit_19 : decode cX0_takeFirstRootDigit 19 = .ok (.isub, 1) := by decide +kernel
theorem dX0_takeFirstRootDigit_20 : decode cX0_takeFirstRootDigit 20 = .ok (.iaload, 1) := by decide +kernel
theorem dX0_takeFirstRootDigit_21 : decode cX0_takeFirstRootDigit 21 = .ok (.invokestatic 102, 3) := by decide +kernel
theorem dX0_takeFirstRootDigit_24 : decode cX0_takeFirstRootDigit 24 = .ok (.lstore_n 3, 1) := by decide +kernel
theorem dX0_takeFirstRootDigit_25 : decode cX0_takeFirstRootDigit 25 = .ok (.lload_n 3, 1) := by decide +kernel
theorem dX0_takeFirstRootDigit_26 : decode cX0_takeFirstRootDigit 26 = .ok (.invokestatic 152, 3) := by decide +kernel
theorem dX0_takeFirstRootDigit_29 : decode cX0_takeFirstRootDigit 29 = .ok (.lstore 5, 2) := by decide +kernel
theorem dX0_takeFirstRootDigit_31 : decode cX0_takeFirstRootDigit 31 = .ok (.aload_n 0, 1) := by decide +kernel
theorem dX0_takeFirstRootDigit_32 : decode cX0_takeFirstRootDigit 32 = .ok (.getfield 24, 3) := by decide +kernel
theorem dX0_takeFirstRootDigit_35 : decode cX0_takeFirstRootDigit 35 = .ok (.iload_n 2, 1) := by decide +kernel
theorem dX0_takeFirstRootDigit_36 : decode cX0_takeFirstRootDigit 36 = .ok (.iconst 0, 1) := by decide +kernel
theorem dX0_takeFirstRootDigit_37 : decode cX0_takeFirstRootDigit 37 = .ok (.iastore, 1) := by decide +kernel
theorem dX0_takeFirstRootDigit_38 : decode cX0_takeFirstRootDigit 38 = .ok (.aload_n 0, 1) := by decide +kernel
theorem dX0_takeFirstRootDigit_39 : decode cX0_takeFirstRootDigit 39 = .ok (.getfield 24, 3) := by decide +kernel
theorem dX0_takeFirstRootDigit_42 : decode cX0_takeFirstRootDigit 42 = .ok (.iload_n 2, 1) := by decide +kernel
theorem dX0_takeFirstRootDigit_43 : decode cX0_takeFirstRootDigit 43 = .ok (.iconst 1, 1) := by decide +kernel
theorem dX0_takeFirstRootDigit_44 : decode cX0_takeFirstRootDigit 44 = .ok (.isub, 1) := by decide +kernel
theorem dX0_takeFirstRootDigit_45 : decode cX0_takeFirstRootDigit 45 = .ok (.lload_n 3, 1) := by decide +kernel
theorem dX0_takeFirstRootDigit_46 : decode cX0_takeFirstRootDigit 46 = .ok (.lload 5, 2) := by decide +kernel
theorem dX0_takeFirstRootDigit_48 : decode cX0_takeFirstRootDigit 48 = .ok (.lload 5, 2) := by decide +kernel
theorem dX0_takeFirstRootDigit_50 : decode cX0_takeFirstRootDigit 50 = .ok (.lmul, 1) := by decide +kernel
theorem dX0_takeFirstRootDigit_51 : decode cX0_takeFirstRootDigit 51 = .ok (.lsub, 1) := by decide +kernel
theorem dX0_takeFirstRootDigit_52 : decode cX0_takeFirstRootDigit 52 = .ok (.l2i, 1) := by decide +kernel
theorem dX0_takeFirstRootDigit_53 : decode cX0_takeFirstRootDigit 53 = .ok (.iastore, 1) := by decide +kernel
theorem dX0_takeFirstRootDigit_54 : decode cX0_takeFirstRootDigit 54 = .ok (.aload_n 0, 1) := by decide +kernel
theorem dX0_takeFirstRootDigit_55 : decode cX0_takeFirstRootDigit 55 = .ok (.getfield 27, 3) := by decide +kernel
theorem dX0_takeFirstRootDigit_58 : decode cX0_takeFirstRootDigit 58 = .ok (.iload_n 1, 1) := by decide +kernel
theorem dX0_takeFirstRootDigit_59 : decode cX0_takeFirstRootDigit 59 = .ok (.iconst 1, 1) := by decide +kernel
theorem dX0_takeFirstRootDigit_60 : decode cX0_takeFirstRootDigit 60 = .ok (.isub, 1) := by decide +kernel
theorem dX0_takeFirstRootDigit_61 : decode cX0_takeFirstRootDigit 61 = .ok (.ldc2_w 156, 3) := by decide +kernel
theorem dX0_takeFirstRootDigit_64 : decode cX0_takeFirstRootDigit 64 = .ok (.lload 5, 2) := by decide +kernel
theorem dX0_takeFirstRootDigit_66 : decode cX0_takeFirstRootDigit 66 = .ok (.lmul, 1) := by decide +kernel
theorem dX0_takeFirstRootDigit_67 : decode cX0_takeFirstRootDigit 67 = .ok (.l2i, 1) := by decide +kernel
theorem dX0_takeFirstRootDigit_68 : decode cX0_takeFirstRootDigit 68 = .ok (.iastore, 1) := by decide +kernel
theorem dX0_takeFirstRootDigit_69 : decode cX0_takeFirstRootDigit 69 = .ok (.return_, 1) := by decide +kernel
theorem dX0_rootOfPair_0 : decode cX0_rootOfPair 0 = .ok (.lconst 0, 1) := by decide +kernel
theorem dX0_rootOfPair_1 : decode cX0_rootOfPair 1 = .ok (.lstore_n 2, 1) := by decide +kernel
theorem dX0_rootOfPair_2 : decode cX0_rootOfPair 2 = .ok (.bipush 30, 2) := by decide +kernel
theorem dX0_rootOfPair_4 : decode cX0_rootOfPair 4 = .ok (.istore 4, 2) := by decide +kernel
theorem dX0_rootOfPair_6 : decode cX0_rootOfPair 6 = .ok (.iload 4, 2) := by decide +kernel
theorem dX0_rootOfPair_8 : decode cX0_rootOfPair 8 = .ok (.ifCond .lt 30, 3) := by decide +kernel
theorem dX0_rootOfPair_11 : decode cX0_rootOfPair 11 = .ok (.lload_n 2, 1) := by decide +kernel
theorem dX0_rootOfPair_12 : decode cX0_rootOfPair 12 = .ok (.lconst 1, 1) := by decide +kernel
theorem dX0_rootOfPair_13 : decode cX0_rootOfPair 13 = .ok (.iload 4, 2) := by decide +kernel
theorem dX0_rootOfPair_15 : decode cX0_rootOfPair 15 = .ok (.lshl, 1) := by decide +kernel
theorem dX0_rootOfPair_16 : decode cX0_rootOfPair 16 = .ok (.lor, 1) := by decide +kernel
theorem dX0_rootOfPair_17 : decode cX0_rootOfPair 17 = .ok (.lstore 5, 2) := by decide +kernel
theorem dX0_rootOfPair_19 : decode cX0_rootOfPair 19 = .ok (.lload 5, 2) := by decide +kernel
theorem dX0_rootOfPair_21 : decode cX0_rootOfPair 21 = .ok (.lload 5, 2) := by decide +kernel
theorem dX0_rootOfPair_23 : decode cX0_rootOfPair 23 = .ok (.lmul, 1) := by decide +kernel
theorem dX0_rootOfPair_24 : decode cX0_rootOfPair 24 = .ok (.lload_n 0, 1) := by decide +kernel
theorem dX0_rootOfPair_25 : decode cX0_rootOfPair 25 = .ok (.lcmp, 1) := by decide +kernel
theorem dX0_rootOfPair_26 : decode cX0_rootOfPair 26 = .ok (.ifCond .gt 6, 3) := by decide +kernel
theorem dX0_rootOfPair_29 : decode cX0_rootOfPair 29 = .ok (.lload 5, 2) := by decide +kernel
theorem dX0_rootOfPair_31 : decode cX0_rootOfPair 31 = .ok (.lstore_n 2, 1) := by decide +kernel
theorem dX0_rootOfPair_32 : decode cX0_rootOfPair 32 = .ok (.iinc 4 (-1), 3) := by decide +kernel
theorem dX0_rootOfPair_35 : decode cX0_rootOfPair 35 = .ok (.goto (-29), 3) := by decide +kernel
theorem dX0_rootOfPair_38 : decode cX0_rootOfPair 38 = .ok (.lload_n 2, 1) := by decide +kernel
theorem dX0_rootOfPair_39 : decode cX0_rootOfPair 39 = .ok (.lreturn, 1) := by decide +kernel
set_option maxRecDepth 20000 in
theorem ggX0_takeRootDigit_X0_guessDigit : GoodIn wsX0_takeRootDigit wsX0_guessDigit := goodIn_r _ [6, 7, 1, 8, 9, 10, 11, 12, 13, 14, 5, 15, 16, 17, 18, 19, 28, 29, 30, 31, 32, 33] (by decide +kernel) (by decide +kernel)
set_option maxRecDepth 20000 in
theorem gX0_takeRootDigit_X0_guessDigit : GoodIn wsX0_takeRootDigit (wsV RX0 135 RX0 yX0_guessDigit wsX0_guessDigit) := goodIn_app (goodIn_of _ (by decide +kernel)) ggX0_takeRootDigit_X0_guessDigit
set_option maxRecDepth 20000 in
theorem ggX0_takeRootDigit_X0_takeMultiple : GoodIn wsX0_takeRootDigit wsX0_takeMultiple := goodIn_r _ [23, 1, 8, 7, 28, 29, 30, 31, 32, 33] (by decide +kernel) (by decide +kernel)
set_option maxRecDepth 20000 in
theorem gX0_takeRootDigit_X0_takeMultiple : GoodIn wsX0_takeRootDigit (wsV RX0 139 RX0 yX0_takeMultiple wsX0_takeMultiple) := goodIn_app (goodIn_of _ (by decide +kernel)) ggX0_takeRootDigit_X0_takeMultiple
set_option maxRecDepth 20000 in
theorem ggX0_takeRootDigit_X0_giveBack : GoodIn wsX0_takeRootDigit wsX0_giveBack := goodIn_r _ [27, 7, 8, 1, 28, 29, 30, 31, 32, 33] (by decide +kernel) (by decide +kernel)
set_option maxRecDepth 20000 in
theorem gX0_takeRootDigit_X0_giveBack : GoodIn wsX0_takeRootDigit (wsV RX0 143 RX0 yX0_giveBack wsX0_giveBack) := goodIn_app (goodIn_of _ (by decide +kernel)) ggX0_takeRootDigit_X0_giveBack
theorem dX0_takeRootDigit_0 : decode cX0_takeRootDigit 0 = .ok (.iconst 2, 1) := by decide +kernel
theorem dX0_takeRootDigit_1 : decode cX0_takeRootDigit 1 = .ok (.iload_n 1, 1) := by decide +kernel
theorem dX0_takeRootDigit_2 : decode cX0_takeRootDigit 2 = .ok (.imul, 1) := by decide +kernel
theorem dX0_takeRootDigit_3 : decode cX0_takeRootDigit 3 = .ok (.istore_n 3, 1) := by decide +kernel
theorem dX0_takeRootDigit_4 : decode cX0_takeRootDigit 4 = .ok (.iload_n 2, 1) := by decide +kernel
theorem dX0_takeRootDigit_5 : decode cX0_takeRootDigit 5 = .ok (.iload_n 1, 1) := by decide +kernel
theorem dX0_takeRootDigit_6 : decode cX0_takeRootDigit 6 = .ok (.isub, 1) := by decide +kernel
theorem dX0_takeRootDigit_7 : decode cX0_takeRootDigit 7 = .ok (.istore 4, 2) := by decide +kernel
theorem dX0_takeRootDigit_9 : decode cX0_takeRootDigit 9 = .ok (.aload_n 0, 1) := by decide +kernel
theorem dX0_takeRootDigit_10 : decode cX0_takeRootDigit 10 = .ok (.iload_n 3, 1) := by decide +kernel
theorem dX0_takeRootDigit_11 : decode cX0_takeRootDigit 11 = .ok (.iload 4, 2) := by decide +kernel
theorem dX0_takeRootDigit_13 : decode cX0_takeRootDigit 13 = .ok (.iadd, 1) := by decide +kernel
theorem dX0_takeRootDigit_14 : decode cX0_takeRootDigit 14 = .ok (.iload_n 2, 1) := by decide +kernel
theorem dX0_takeRootDigit_15 : decode cX0_takeRootDigit 15 = .ok (.iconst 1, 1) := by decide +kernel
theorem dX0_takeRootDigit_16 : decode cX0_takeRootDigit 16 = .ok (.isub, 1) := by decide +kernel
theorem dX0_takeRootDigit_17 : decode cX0_takeRootDigit 17 = .ok (.invokevirtual 135, 3) := by decide +kernel
theorem dX0_takeRootDigit_20 : decode cX0_takeRootDigit 20 = .ok (.lstore 5, 2) := by decide +kernel
theorem dX0_takeRootDigit_22 : decode cX0_takeRootDigit 22 = .ok (.aload_n 0, 1) := by decide +kernel
theorem dX0_takeRootDigit_23 : decode cX0_takeRootDigit 23 = .ok (.getfield 27, 3) := by decide +kernel
theorem dX0_takeRootDigit_26 : decode cX0_takeRootDigit 26 = .ok (.iload_n 1, 1) := by decide +kernel
theorem dX0_takeRootDigit_27 : decode cX0_takeRootDigit 27 = .ok (.lload 5, 2) := by decide +kernel
theorem dX0_takeRootDigit_29 : decode cX0_takeRootDigit 29 = .ok (.l2i, 1) := by decide +kernel
theorem dX0_takeRootDigit_30 : decode cX0_takeRootDigit 30 = .ok (.iastore, 1) := by decide +kernel
theorem dX0_takeRootDigit_31 : decode cX0_takeRootDigit 31 = .ok (.aload_n 0, 1) := by decide +kernel
theorem dX0_takeRootDigit_32 : decode cX0_takeRootDigit 32 = .ok (.iload_n 3, 1) := by decide +kernel
theorem dX0_takeRootDigit_33 : decode cX0_takeRootDigit 33 = .ok (.iload_n 1, 1) := by decide +kernel
theorem dX0_takeRootDigit_34 : decode cX0_takeRootDigit 34 = .ok (.iload 4, 2) := by decide +kernel
theorem dX0_takeRootDigit_36 : decode cX0_takeRootDigit 36 = .ok (.lload 5, 2) := by decide +kernel
theorem dX0_takeRootDigit_38 : decode cX0_takeRootDigit 38 = .ok (.invokevirtual 139, 3) := by decide +kernel
theorem dX0_takeRootDigit_41 : decode cX0_takeRootDigit 41 = .ok (.istore 7, 2) := by decide +kernel
theorem dX0_takeRootDigit_43 : decode cX0_takeRootDigit 43 = .ok (.iconst 0, 1) := by decide +kernel
theorem dX0_takeRootDigit_44 : decode cX0_takeRootDigit 44 = .ok (.istore 8, 2) := by decide +kernel
theorem dX0_takeRootDigit_46 : decode cX0_takeRootDigit 46 = .ok (.iload 7, 2) := by decide +kernel
theorem dX0_takeRootDigit_48 : decode cX0_takeRootDigit 48 = .ok (.ifCond .eq 42, 3) := by decide +kernel
theorem dX0_takeRootDigit_51 : decode cX0_takeRootDigit 51 = .ok (.iload 8, 2) := by decide +kernel
theorem dX0_takeRootDigit_53 : decode cX0_takeRootDigit 53 = .ok (.iconst 3, 1) := by decide +kernel
theorem dX0_takeRootDigit_54 : decode cX0_takeRootDigit 54 = .ok (.if_icmp .ge 36, 3) := by decide +kernel
theorem dX0_takeRootDigit_57 : decode cX0_takeRootDigit 57 = .ok (.lload 5, 2) := by decide +kernel
theorem dX0_takeRootDigit_59 : decode cX0_takeRootDigit 59 = .ok (.lconst 1, 1) := by decide +kernel
theorem dX0_takeRootDigit_60 : decode cX0_takeRootDigit 60 = .ok (.lsub, 1) := by decide +kernel
theorem dX0_takeRootDigit_61 : decode cX0_takeRootDigit 61 = .ok (.lstore 5, 2) := by decide +kernel
theorem dX0_takeRootDigit_63 : decode cX0_takeRootDigit 63 = .ok (.aload_n 0, 1) := by decide +kernel
theorem dX0_takeRootDigit_64 : decode cX0_takeRootDigit 64 = .ok (.iload_n 3, 1) := by decide +kernel
theorem dX0_takeRootDigit_65 : decode cX0_takeRootDigit 65 = .ok (.iload_n 1, 1) := by decide +kernel
theorem dX0_takeRootDigit_66 : decode cX0_takeRootDigit 66 = .ok (.iload 4, 2) := by decide +kernel
theorem dX0_takeRootDigit_68 : decode cX0_takeRootDigit 68 = .ok (.lload 5, 2) := by decide +kernel
theorem dX0_takeRootDigit_70 : decode cX0_takeRootDigit 70 = .ok (.invokevirtual 143, 3) := by decide +kernel
theorem dX0_takeRootDigit_73 : decode cX0_takeRootDigit 73 = .ok (.istore 7, 2) := by decide +kernel
theorem dX0_takeRootDigit_75 : decode cX0_takeRootDigit 75 = .ok (.aload_n 0, 1) := by decide +kernel
theorem dX0_takeRootDigit_76 : decode cX0_takeRootDigit 76 = .ok (.getfield 27, 3) := by decide +kernel
theorem dX0_takeRootDigit_79 : decode cX0_takeRootDigit 79 = .ok (.iload_n 1, 1) := by decide +kernel
theorem dX0_takeRootDigit_80 : decode cX0_takeRootDigit 80 = .ok (.lload 5, 2) := by decide +kernel
theorem dX0_takeRootDigit_82 : decode cX0_takeRootDigit 82 = .ok (.l2i, 1) := by decide +kernel
theorem dX0_takeRootDigit_83 : decode cX0_takeRootDigit 83 = .ok (.iastore, 1) := by decide +kernel
theorem dX0_takeRootDigit_84 : decode cX0_takeRootDigit 84 = .ok (.iinc 8 1, 3) := by decide +kernel
theorem dX0_takeRootDigit_87 : decode cX0_takeRootDigit 87 = .ok (.goto (-41), 3) := by decide +kernel
theorem dX0_takeRootDigit_90 : decode cX0_takeRootDigit 90 = .ok (.aload_n 0, 1) := by decide +kernel
theorem dX0_takeRootDigit_91 : decode cX0_takeRootDigit 91 = .ok (.getfield 27, 3) := by decide +kernel
theorem dX0_takeRootDigit_94 : decode cX0_takeRootDigit 94 = .ok (.iload_n 1, 1) := by decide +kernel
theorem dX0_takeRootDigit_95 : decode cX0_takeRootDigit 95 = .ok (.lload 5, 2) := by decide +kernel
theorem dX0_takeRootDigit_97 : decode cX0_takeRootDigit 97 = .ok (.iconst 1, 1) := by decide +kernel
theorem dX0_takeRootDigit_98 : decode cX0_takeRootDigit 98 = .ok (.lshl, 1) := by decide +kernel
theorem dX0_takeRootDigit_99 : decode cX0_takeRootDigit 99 = .ok (.l2i, 1) := by decide +kernel
theorem dX0_takeRootDigit_100 : decode cX0_takeRootDigit 100 = .ok (.iastore, 1) := by decide +kernel
theorem dX0_takeRootDigit_101 : decode cX0_takeRootDigit 101 = .ok (.aload_n 0, 1) := by decide +kernel
theorem dX0_takeRootDigit_102 : decode cX0_takeRootDigit 102 = .ok (.getfield 27, 3) := by decide +kernel
theorem dX0_takeRootDigit_105 : decode cX0_takeRootDigit 105 = .ok (.iload_n 1, 1) := by decide +kernel
theorem dX0_takeRootDigit_106 : decode cX0_takeRootDigit 106 = .ok (.iconst 1, 1) := by decide +kernel
theorem dX0_takeRootDigit_107 : decode cX0_takeRootDigit 107 = .ok (.iadd, 1) := by decide +kernel
theorem dX0_takeRootDigit_108 : decode cX0_takeRootDigit 108 = .ok (.dup2, 1) := by decide +kernel
theorem dX0_takeRootDigit_109 : decode cX0_takeRootDigit 109 = .ok (.iaload, 1) := by decide +kernel
theorem dX0_takeRootDigit_110 : decode cX0_takeRootDigit 110 = .ok (.lload 5, 2) := by decide +kernel
theorem dX0_takeRootDigit_112 : decode cX0_takeRootDigit 112 = .ok (.bipush 31, 2) := by decide +kernel
theorem dX0_takeRootDigit_114 : decode cX0_takeRootDigit 114 = .ok (.lushr, 1) := by decide +kernel
theorem dX0_takeRootDigit_115 : decode cX0_takeRootDigit 115 = .ok (.l2i, 1) := by decide +kernel
theorem dX0_takeRootDigit_116 : decode cX0_takeRootDigit 116 = .ok (.ior, 1) := by decide +kernel
theorem dX0_takeRootDigit_117 : decode cX0_takeRootDigit 117 = .ok (.iastore, 1) := by decide +kernel
theorem dX0_takeRootDigit_118 : decode cX0_takeRootDigit 118 = .ok (.return_, 1) := by decide +kernel
set_option maxRecDepth 20000 in
theorem ggX0_guessDigit_X0_pairOf : GoodIn wsX0_guessDigit wsX0_pairOf := goodIn_r _ [11, 3] (by decide +kernel) (by decide +kernel)
set_option maxRecDepth 20000 in
theorem gX0_guessDigit_X0_pairOf : GoodIn wsX0_guessDigit (va_wsS RX0 102 yX0_pairOf wsX0_pairOf) := goodIn_app (goodIn_of _ (by decide +kernel)) ggX0_guessDigit_X0_pairOf
set_option maxRecDepth 20000 in
theorem ggX0_guessDigit_X0_quotientOfPair : GoodIn wsX0_guessDigit wsX0_quotientOfPair := goodIn_r _ [14, 15] (by decide +kernel) (by decide +kernel)
set_option maxRecDepth 20000 in
theorem gX0_guessDigit_X0_quotientOfPair : GoodIn wsX0_guessDigit (va_wsS RX0 158 yX0_quotientOfPair wsX0_quotientOfPair) := goodIn_app (goodIn_of _ (by decide +kernel)) ggX0_guessDigit_X0_quotientOfPair
theorem dX0_guessDigit_0 : decode cX0_guessDigit 0 = .ok (.aload_n 0, 1) := by decide +kernel
theorem dX0_guessDigit_1 : decode cX0_guessDigit 1 = .ok (.getfield 24, 3) := by decide +kernel
theorem dX0_guessDigit_4 : decode cX0_guessDigit 4 = .ok (.iload_n 1, 1) := by decide +kernel
theorem dX0_guessDigit_5 : decode cX0_guessDigit 5 = .ok (.iaload, 1) := by decide +kernel
theorem dX0_guessDigit_6 : decode cX0_guessDigit 6 = .ok (.i2l, 1) := by decide +kernel
theorem dX0_guessDigit_7 : decode cX0_guessDigit 7 = .ok (.aload_n 0, 1) := by decide +kernel
theorem dX0_guessDigit_8 : decode cX0_guessDigit 8 = .ok (.getfield 24, 3) := by decide +kernel
theorem dX0_guessDigit_11 : decode cX0_guessDigit 11 = .ok (.iload_n 1, 1) := by decide +kernel
theorem dX0_guessDigit_12 : decode cX0_guessDigit 12 = .ok (.iconst 1, 1) := by decide +kernel
theorem dX0_guessDigit_13 : decode cX0_guessDigit 13 = .ok (.isub, 1) := by decide +kernel
theorem dX0_guessDigit_14 : decode cX0_guessDigit 14 = .ok (.iaload, 1) := by decide +kernel
theorem dX0_guessDigit_15 : decode cX0_guessDigit 15 = .ok (.invokestatic 102, 3) := by decide +kernel
theorem dX0_guessDigit_18 : decode cX0_guessDigit 18 = .ok (.lstore_n 3, 1) := by decide +kernel
theorem dX0_guessDigit_19 : decode cX0_guessDigit 19 = .ok (.lload_n 3, 1) := by decide +kernel
theorem dX0_guessDigit_20 : decode cX0_guessDigit 20 = .ok (.aload_n 0, 1) := by decide +kernel
theorem dX0_guessDigit_21 : decode cX0_guessDigit 21 = .ok (.getfield 27, 3) := by decide +kernel
theorem dX0_guessDigit_24 : decode cX0_guessDigit 24 = .ok (.iload_n 2, 1) := by decide +kernel
theorem dX0_guessDigit_25 : decode cX0_guessDigit 25 = .ok (.iaload, 1) := by decide +kernel
theorem dX0_guessDigit_26 : decode cX0_guessDigit 26 = .ok (.i2l, 1) := by decide +kernel
theorem dX0_guessDigit_27 : decode cX0_guessDigit 27 = .ok (.ldc2_w 108, 3) := by decide +kernel
theorem dX0_guessDigit_30 : decode cX0_guessDigit 30 = .ok (.land, 1) := by decide +kernel
theorem dX0_guessDigit_31 : decode cX0_guessDigit 31 = .ok (.invokestatic 158, 3) := by decide +kernel
theorem dX0_guessDigit_34 : decode cX0_guessDigit 34 = .ok (.ldc2_w 108, 3) := by decide +kernel
theorem dX0_guessDigit_37 : decode cX0_guessDigit 37 = .ok (.invokestatic 162, 3) := by decide +kernel
theorem dX0_guessDigit_40 : decode cX0_guessDigit 40 = .ok (.lreturn, 1) := by decide +kernel
theorem dX0_quotientOfPair_0 : decode cX0_quotientOfPair 0 = .ok (.lload_n 2, 1) := by decide +kernel
theorem dX0_quotientOfPair_1 : decode cX0_quotientOfPair 1 = .ok (.lconst 0, 1) := by decide +kernel
theorem dX0_quotientOfPair_2 : decode cX0_quotientOfPair 2 = .ok (.lcmp, 1) := by decide +kernel
theorem dX0_quotientOfPair_3 : decode cX0_quotientOfPair 3 = .ok (.ifCond .ne 5, 3) := by decide +kernel
theorem dX0_quotientOfPair_6 : decode cX0_quotientOfPair 6 = .ok (.lconst 0, 1) := by decide +kernel
theorem dX0_quotientOfPair_7 : decode cX0_quotientOfPair 7 = .ok (.lreturn, 1) := by decide +kernel
theorem dX0_quotientOfPair_8 : decode cX0_quotientOfPair 8 = .ok (.lload_n 0, 1) := by decide +kernel
theorem dX0_quotientOfPair_9 : decode cX0_quotientOfPair 9 = .ok (.iconst 1, 1) := by decide +kernel
theorem dX0_quotientOfPair_10 : decode cX0_quotientOfPair 10 = .ok (.lushr, 1) := by decide +kernel
theorem dX0_quotientOfPair_11 : decode cX0_quotientOfPair 11 = .ok (.lload_n 2, 1) := by decide +kernel
theorem dX0_quotientOfPair_12 : decode cX0_quotientOfPair 12 = .ok (.ldiv, 1) := by decide +kernel
theorem dX0_quotientOfPair_13 : decode cX0_quotientOfPair 13 = .ok (.ldc2_w 156, 3) := by decide +kernel
theorem dX0_quotientOfPair_16 : decode cX0_quotientOfPair 16 = .ok (.lmul, 1) := by decide +kernel
theorem dX0_quotientOfPair_17 : decode cX0_quotientOfPair 17 = .ok (.lstore 4, 2) := by decide +kernel
theorem dX0_quotientOfPair_19 : decode cX0_quotientOfPair 19 = .ok (.lload_n 0, 1) := by decide +kernel
theorem dX0_quotientOfPair_20 : decode cX0_quotientOfPair 20 = .ok (.lload 4, 2) := by decide +kernel
theorem dX0_quotientOfPair_22 : decode cX0_quotientOfPair 22 = .ok (.lload_n 2, 1) := by decide +kernel
theorem dX0_quotientOfPair_23 : decode cX0_quotientOfPair 23 = .ok (.lmul, 1) := by decide +kernel
theorem dX0_quotientOfPair_24 : decode cX0_quotientOfPair 24 = .ok (.lsub, 1) := by decide +kernel
theorem dX0_quotientOfPair_25 : decode cX0_quotientOfPair 25 = .ok (.lload_n 2, 1) := by decide +kernel
theorem dX0_quotientOfPair_26 : decode cX0_quotientOfPair 26 = .ok (.lcmp, 1) := by decide +kernel
theorem dX0_quotientOfPair_27 : decode cX0_quotientOfPair 27 = .ok (.ifCond .lt 10, 3) := by decide +kernel
theorem dX0_quotientOfPair_30 : decode cX0_quotientOfPair 30 = .ok (.lload 4, 2) := by decide +kernel
theorem dX0_quotientOfPair_32 : decode cX0_quotientOfPair 32 = .ok (.lconst 1, 1) := by decide +kernel
theorem dX0_quotientOfPair_33 : decode cX0_quotientOfPair 33 = .ok (.ladd, 1) := by decide +kernel
theorem dX0_quotientOfPair_34 : decode cX0_quotientOfPair 34 = .ok (.goto 5, 3) := by decide +kernel
theorem dX0_quotientOfPair_37 : decode cX0_quotientOfPair 37 = .ok (.lload 4, 2) := by decide +kernel
theorem dX0_quotientOfPair_39 : decode cX0_quotientOfPair 39 = .ok (.lreturn, 1) := by decide +kernel
theorem dX0_takeMultiple_0 : decode cX0_takeMultiple 0 = .ok (.lconst 0, 1) := by decide +kernel
theorem dX0_takeMultiple_1 : decode cX0_takeMultiple 1 = .ok (.lstore 6, 2) := by decide +kernel
theorem dX0_takeMultiple_3 : decode cX0_takeMultiple 3 = .ok (.iconst 0, 1) := by decide +kernel
theorem dX0_takeMultiple_4 : decode cX0_takeMultiple 4 = .ok (.istore 8, 2) := by decide +kernel
theorem dX0_takeMultiple_6 : decode cX0_takeMultiple 6 = .ok (.iload 8, 2) := by decide +kernel
theorem dX0_takeMultiple_8 : decode cX0_takeMultiple 8 = .ok (.iload_n 3, 1) := by decide +kernel
theorem dX0_takeMultiple_9 : decode cX0_takeMultiple 9 = .ok (.if_icmp .ge 87, 3) := by decide +kernel
theorem dX0_takeMultiple_12 : decode cX0_takeMultiple 12 = .ok (.lload 4, 2) := by decide +kernel
theorem dX0_takeMultiple_14 : decode cX0_takeMultiple 14 = .ok (.aload_n 0, 1) := by decide +kernel
theorem dX0_takeMultiple_15 : decode cX0_takeMultiple 15 = .ok (.getfield 27, 3) := by decide +kernel
theorem dX0_takeMultiple_18 : decode cX0_takeMultiple 18 = .ok (.iload_n 2, 1) := by decide +kernel
theorem dX0_takeMultiple_19 : decode cX0_takeMultiple 19 = .ok (.iload 8, 2) := by decide +kernel
theorem dX0_takeMultiple_21 : decode cX0_takeMultiple 21 = .ok (.iadd, 1) := by decide +kernel
theorem dX0_takeMultiple_22 : decode cX0_takeMultiple 22 = .ok (.iaload, 1) := by decide +kernel
theorem dX0_takeMultiple_23 : decode cX0_takeMultiple 23 = .ok (.i2l, 1) := by decide +kernel
theorem dX0_takeMultiple_24 : decode cX0_takeMultiple 24 = .ok (.ldc2_w 108, 3) := by decide +kernel
theorem dX0_takeMultiple_27 : decode cX0_takeMultiple 27 = .ok (.land, 1) := by decide +kernel
theorem dX0_takeMultiple_28 : decode cX0_takeMultiple 28 = .ok (.lmul, 1) := by decide +kernel
theorem dX0_takeMultiple_29 : decode cX0_takeMultiple 29 = .ok (.lload 6, 2) := by decide +kernel
theorem dX0_takeMultiple_31 : decode cX0_takeMultiple 31 = .ok (.ladd, 1) := by decide +kernel
theorem dX0_takeMultiple_32 : decode cX0_takeMultiple 32 = .ok (.lstore 9, 2) := by decide +kernel
theorem dX0_takeMultiple_34 : decode cX0_takeMultiple 34 = .ok (.aload_n 0, 1) := by decide +kernel
theorem dX0_takeMultiple_35 : decode cX0_takeMultiple 35 = .ok (.getfield 24, 3) := by decide +kernel
theorem dX0_takeMultiple_38 : decode cX0_takeMultiple 38 = .ok (.iload_n 1, 1) := by decide +kernel
theorem dX0_takeMultiple_39 : decode cX0_takeMultiple 39 = .ok (.iload 8, 2) := by decide +kernel
theorem dX0_takeMultiple_41 : decode cX0_takeMultiple 41 = .ok (.iadd, 1) := by decide +kernel
theorem dX0_takeMultiple_42 : decode cX0_takeMultiple 42 = .ok (.iaload, 1) := by decide +kernel
theorem dX0_takeMultiple_43 : decode cX0_takeMultiple 43 = .ok (.i2l, 1) := by decide +kernel
theorem dX0_takeMultiple_44 : decode cX0_takeMultiple 44 = .ok (.ldc2_w 108, 3) := by decide +kernel
theorem dX0_takeMultiple_47 : decode cX0_takeMultiple 47 = .ok (.land, 1) := by decide +kernel
theorem dX0_takeMultiple_48 : decode cX0_takeMultiple 48 = .ok (.lload 9, 2) := by decide +kernel
theorem dX0_takeMultiple_50 : decode cX0_takeMultiple 50 = .ok (.ldc2_w 108, 3) := by decide +kernel
theorem dX0_takeMultiple_53 : decode cX0_takeMultiple 53 = .ok (.land, 1) := by decide +kernel
theorem dX0_takeMultiple_54 : decode cX0_takeMultiple 54 = .ok (.lsub, 1) := by decide +kernel
theorem dX0_takeMultiple_55 : decode cX0_takeMultiple 55 = .ok (.lstore 11, 2) := by decide +kernel
theorem dX0_takeMultiple_57 : decode cX0_takeMultiple 57 = .ok (.aload_n 0, 1) := by decide +kernel
theorem dX0_takeMultiple_58 : decode cX0_takeMultiple 58 = .ok (.getfield 24, 3) := by decide +kernel
theorem dX0_takeMultiple_61 : decode cX0_takeMultiple 61 = .ok (.iload_n 1, 1) := by decide +kernel
theorem dX0_takeMultiple_62 : decode cX0_takeMultiple 62 = .ok (.iload 8, 2) := by decide +kernel
theorem dX0_takeMultiple_64 : decode cX0_takeMultiple 64 = .ok (.iadd, 1) := by decide +kernel
theorem dX0_takeMultiple_65 : decode cX0_takeMultiple 65 = .ok (.lload 11, 2) := by decide +kernel
theorem dX0_takeMultiple_67 : decode cX0_takeMultiple 67 = .ok (.l2i, 1) := by decide +kernel
theorem dX0_takeMultiple_68 : decode cX0_takeMultiple 68 = .ok (.iastore, 1) := by decide +kernel
theorem dX0_takeMultiple_69 : decode cX0_takeMultiple 69 = .ok (.lload 9, 2) := by decide +kernel
theorem dX0_takeMultiple_71 : decode cX0_takeMultiple 71 = .ok (.bipush 32, 2) := by decide +kernel
theorem dX0_takeMultiple_73 : decode cX0_takeMultiple 73 = .ok (.lushr, 1) := by decide +kernel
theorem dX0_takeMultiple_74 : decode cX0_takeMultiple 74 = .ok (.lload 11, 2) := by decide +kernel
theorem dX0_takeMultiple_76 : decode cX0_takeMultiple 76 = .ok (.lconst 0, 1) := by decide +kernel
theorem dX0_takeMultiple_77 : decode cX0_takeMultiple 77 = .ok (.lcmp, 1) := by decide +kernel
theorem dX0_takeMultiple_78 : decode cX0_takeMultiple 78 = .ok (.ifCond .ge 7, 3) := by decide +kernel
theorem dX0_takeMultiple_81 : decode cX0_takeMultiple 81 = .ok (.iconst 1, 1) := by decide +kernel
theorem dX0_takeMultiple_82 : decode cX0_takeMultiple 82 = .ok (.goto 4, 3) := by decide +kernel
theorem dX0_takeMultiple_85 : decode cX0_takeMultiple 85 = .ok (.iconst 0, 1) := by decide +kernel
theorem dX0_takeMultiple_86 : decode cX0_takeMultiple 86 = .ok (.i2l, 1) := by decide +kernel
theorem dX0_takeMultiple_87 : decode cX0_takeMultiple 87 = .ok (.ladd, 1) := by decide +kernel
theorem dX0_takeMultiple_88 : decode cX0_takeMultiple 88 = .ok (.lstore 6, 2) := by decide +kernel
theorem dX0_takeMultiple_90 : decode cX0_takeMultiple 90 = .ok (.iinc 8 1, 3) := by decide +kernel
theorem dX0_takeMultiple_93 : decode cX0_takeMultiple 93 = .ok (.goto (-87), 3) := by decide +kernel
theorem dX0_takeMultiple_96 : decode cX0_takeMultiple 96 = .ok (.aload_n 0, 1) := by decide +kernel
theorem dX0_takeMultiple_97 : decode cX0_takeMultiple 97 = .ok (.getfield 24, 3) := by decide +kernel
theorem dX0_takeMultiple_100 : decode cX0_takeMultiple 100 = .ok (.iload_n 1, 1) := by decide +kernel
theorem dX0_takeMultiple_101 : decode cX0_takeMultiple 101 = .ok (.iload_n 3, 1) := by decide +kernel
theorem dX0_takeMultiple_102 : decode cX0_takeMultiple 102 = .ok (.iadd, 1) := by decide +kernel
theorem dX0_takeMultiple_103 : decode cX0_takeMultiple 103 = .ok (.iaload, 1) := by decide +kernel
theorem dX0_takeMultiple_104 : decode cX0_takeMultiple 104 = .ok (.i2l, 1) := by decide +kernel
theorem dX0_takeMultiple_105 : decode cX0_takeMultiple 105 = .ok (.ldc2_w 108, 3) := by decide +kernel
theorem dX0_takeMultiple_108 : decode cX0_takeMultiple 108 = .ok (.land, 1) := by decide +kernel
theorem dX0_takeMultiple_109 : decode cX0_takeMultiple 109 = .ok (.lload 6, 2) := by decide +kernel
theorem dX0_takeMultiple_111 : decode cX0_takeMultiple 111 = .ok (.lsub, 1) := by decide +kernel
theorem dX0_takeMultiple_112 : decode cX0_takeMultiple 112 = .ok (.lstore 8, 2) := by decide +kernel
theorem dX0_takeMultiple_114 : decode cX0_takeMultiple 114 = .ok (.aload_n 0, 1) := by decide +kernel
theorem dX0_takeMultiple_115 : decode cX0_takeMultiple 115 = .ok (.getfield 24, 3) := by decide +kernel
theorem dX0_takeMultiple_118 : decode cX0_takeMultiple 118 = .ok (.iload_n 1, 1) := by decide +kernel
theorem dX0_takeMultiple_119 : decode cX0_takeMultiple 119 = .ok (.iload_n 3, 1) := by decide +kernel
theorem dX0_takeMultiple_120 : decode cX0_takeMultiple 120 = .ok (.iadd, 1) := by decide +kernel
theorem dX0_takeMultiple_121 : decode cX0_takeMultiple 121 = .ok (.lload 8, 2) := by decide +kernel
theorem dX0_takeMultiple_123 : decode cX0_takeMultiple 123 = .ok (.l2i, 1) := by decide +kernel
theorem dX0_takeMultiple_124 : decode cX0_takeMultiple 124 = .ok (.iastore, 1) := by decide +kernel
theorem dX0_takeMultiple_125 : decode cX0_takeMultiple 125 = .ok (.lload 8, 2) := by decide +kernel
theorem dX0_takeMultiple_127 : decode cX0_takeMultiple 127 = .ok (.lconst 0, 1) := by decide +kernel
theorem dX0_takeMultiple_128 : decode cX0_takeMultiple 128 = .ok (.lcmp, 1) := by decide +kernel
theorem dX0_takeMultiple_129 : decode cX0_takeMultiple 129 = .ok (.ifCond .ge 7, 3) := by decide +kernel
theorem dX0_takeMultiple_132 : decode cX0_takeMultiple 132 = .ok (.iconst 1, 1) := by decide +kernel
theorem dX0_takeMultiple_133 : decode cX0_takeMultiple 133 = .ok (.goto 4, 3) := by decide +kernel
theorem dX0_takeMultiple_136 : decode cX0_takeMultiple 136 = .ok (.iconst 0, 1) := by decide +kernel
theorem dX0_takeMultiple_137 : decode cX0_takeMultiple 137 = .ok (.ireturn, 1) := by decide +kernel
theorem dX0_giveBack_0 : decode cX0_giveBack 0 = .ok (.lload 4, 2) := by decide +kernel
theorem dX0_giveBack_2 : decode cX0_giveBack 2 = .ok (.lstore 6, 2) := by decide +kernel
theorem dX0_giveBack_4 : decode cX0_giveBack 4 = .ok (.iconst 0, 1) := by decide +kernel
theorem dX0_giveBack_5 : decode cX0_giveBack 5 = .ok (.istore 8, 2) := by decide +kernel
theorem dX0_giveBack_7 : decode cX0_giveBack 7 = .ok (.iload 8, 2) := by decide +kernel
theorem dX0_giveBack_9 : decode cX0_giveBack 9 = .ok (.iload_n 3, 1) := by decide +kernel
theorem dX0_giveBack_10 : decode cX0_giveBack 10 = .ok (.if_icmp .ge 62, 3) := by decide +kernel
theorem dX0_giveBack_13 : decode cX0_giveBack 13 = .ok (.aload_n 0, 1) := by decide +kernel
theorem dX0_giveBack_14 : decode cX0_giveBack 14 = .ok (.getfield 24, 3) := by decide +kernel
theorem dX0_giveBack_17 : decode cX0_giveBack 17 = .ok (.iload_n 1, 1) := by decide +kernel
theorem dX0_giveBack_18 : decode cX0_giveBack 18 = .ok (.iload 8, 2) := by decide +kernel
theorem dX0_giveBack_20 : decode cX0_giveBack 20 = .ok (.iadd, 1) := by decide +kernel
theorem dX0_giveBack_21 : decode cX0_giveBack 21 = .ok (.iaload, 1) := by decide +kernel
theorem dX0_giveBack_22 : decode cX0_giveBack 22 = .ok (.i2l, 1) := by decide +kernel
theorem dX0_giveBack_23 : decode cX0_giveBack 23 = .ok (.ldc2_w 108, 3) := by decide +kernel
theorem dX0_giveBack_26 : decode cX0_giveBack 26 = .ok (.land, 1) := by decide +kernel
theorem dX0_giveBack_27 : decode cX0_giveBack 27 = .ok (.aload_n 0, 1) := by decide +kernel
theorem dX0_giveBack_28 : decode cX0_giveBack 28 = .ok (.getfield 27, 3) := by decide +kernel
theorem dX0_giveBack_31 : decode cX0_giveBack 31 = .ok (.iload_n 2, 1) := by decide +kernel
theorem dX0_giveBack_32 : decode cX0_giveBack 32 = .ok (.iload 8, 2) := by decide +kernel
theorem dX0_giveBack_34 : decode cX0_giveBack 34 = .ok (.iadd, 1) := by decide +kernel
theorem dX0_giveBack_35 : decode cX0_giveBack 35 = .ok (.iaload, 1) := by decide +kernel
theorem dX0_giveBack_36 : decode cX0_giveBack 36 = .ok (.i2l, 1) := by decide +kernel
theorem dX0_giveBack_37 : decode cX0_giveBack 37 = .ok (.ldc2_w 108, 3) := by decide +kernel
theorem dX0_giveBack_40 : decode cX0_giveBack 40 = .ok (.land, 1) := by decide +kernel
theorem dX0_giveBack_41 : decode cX0_giveBack 41 = .ok (.ladd, 1) := by decide +kernel
theorem dX0_giveBack_42 : decode cX0_giveBack 42 = .ok (.lload 6, 2) := by decide +kernel
theorem dX0_giveBack_44 : decode cX0_giveBack 44 = .ok (.ladd, 1) := by decide +kernel
theorem dX0_giveBack_45 : decode cX0_giveBack 45 = .ok (.lstore 9, 2) := by decide +kernel
theorem dX0_giveBack_47 : decode cX0_giveBack 47 = .ok (.aload_n 0, 1) := by decide +kernel
theorem dX0_giveBack_48 : decode cX0_giveBack 48 = .ok (.getfield 24, 3) := by decide +kernel
theorem dX0_giveBack_51 : decode cX0_giveBack 51 = .ok (.iload_n 1, 1) := by decide +kernel
theorem dX0_giveBack_52 : decode cX0_giveBack 52 = .ok (.iload 8, 2) := by decide +kernel
theorem dX0_giveBack_54 : decode cX0_giveBack 54 = .ok (.iadd, 1) := by decide +kernel
theorem dX0_giveBack_55 : decode cX0_giveBack 55 = .ok (.lload 9, 2) := by decide +kernel
theorem dX0_giveBack_57 : decode cX0_giveBack 57 = .ok (.l2i, 1) := by decide +kernel
theorem dX0_giveBack_58 : decode cX0_giveBack 58 = .ok (.iastore, 1) := by decide +kernel
theorem dX0_giveBack_59 : decode cX0_giveBack 59 = .ok (.lload 9, 2) := by decide +kernel
theorem dX0_giveBack_61 : decode cX0_giveBack 61 = .ok (.bipush 32, 2) := by decide +kernel
theorem dX0_giveBack_63 : decode cX0_giveBack 63 = .ok (.lushr, 1) := by decide +kernel
theorem dX0_giveBack_64 : decode cX0_giveBack 64 = .ok (.lstore 6, 2) := by decide +kernel
theorem dX0_giveBack_66 : decode cX0_giveBack 66 = .ok (.iinc 8 1, 3) := by decide +kernel
theorem dX0_giveBack_69 : decode cX0_giveBack 69 = .ok (.goto (-62), 3) := by decide +kernel
theorem dX0_giveBack_72 : decode cX0_giveBack 72 = .ok (.aload_n 0, 1) := by decide +kernel
theorem dX0_giveBack_73 : decode cX0_giveBack 73 = .ok (.getfield 24, 3) := by decide +kernel
theorem dX0_giveBack_76 : decode cX0_giveBack 76 = .ok (.iload_n 1, 1) := by decide +kernel
theorem dX0_giveBack_77 : decode cX0_giveBack 77 = .ok (.iload_n 3, 1) := by decide +kernel
theorem dX0_giveBack_78 : decode cX0_giveBack 78 = .ok (.iadd, 1) := by decide +kernel
theorem dX0_giveBack_79 : decode cX0_giveBack 79 = .ok (.iaload, 1) := by decide +kernel
theorem dX0_giveBack_80 : decode cX0_giveBack 80 = .ok (.i2l, 1) := by decide +kernel
theorem dX0_giveBack_81 : decode cX0_giveBack 81 = .ok (.ldc2_w 108, 3) := by decide +kernel
theorem dX0_giveBack_84 : decode cX0_giveBack 84 = .ok (.land, 1) := by decide +kernel
theorem dX0_giveBack_85 : decode cX0_giveBack 85 = .ok (.lload 6, 2) := by decide +kernel
theorem dX0_giveBack_87 : decode cX0_giveBack 87 = .ok (.ladd, 1) := by decide +kernel
theorem dX0_giveBack_88 : decode cX0_giveBack 88 = .ok (.lstore 8, 2) := by decide +kernel
theorem dX0_giveBack_90 : decode cX0_giveBack 90 = .ok (.aload_n 0, 1) := by decide +kernel
theorem dX0_giveBack_91 : decode cX0_giveBack 91 = .ok (.getfield 24, 3) := by decide +kernel
theorem dX0_giveBack_94 : decode cX0_giveBack 94 = .ok (.iload_n 1, 1) := by decide +kernel
theorem dX0_giveBack_95 : decode cX0_giveBack 95 = .ok (.iload_n 3, 1) := by decide +kernel
theorem dX0_giveBack_96 : decode cX0_giveBack 96 = .ok (.iadd, 1) := by decide +kernel
theorem dX0_giveBack_97 : decode cX0_giveBack 97 = .ok (.lload 8, 2) := by decide +kernel
theorem dX0_giveBack_99 : decode cX0_giveBack 99 = .ok (.l2i, 1) := by decide +kernel
theorem dX0_giveBack_100 : decode cX0_giveBack 100 = .ok (.iastore, 1) := by decide +kernel
theorem dX0_giveBack_101 : decode cX0_giveBack 101 = .ok (.lload 8, 2) := by decide +kernel
theorem dX0_giveBack_103 : decode cX0_giveBack 103 = .ok (.ldc2_w 108, 3) := by decide +kernel
theorem dX0_giveBack_106 : decode cX0_giveBack 106 = .ok (.lcmp, 1) := by decide +kernel
theorem dX0_giveBack_107 : decode cX0_giveBack 107 = .ok (.ifCond .gt 7, 3) := by decide +kernel
theorem dX0_giveBack_110 : decode cX0_giveBack 110 = .ok (.iconst 1, 1) := by decide +kernel
theorem dX0_giveBack_111 : decode cX0_giveBack 111 = .ok (.goto 4, 3) := by decide +kernel
theorem dX0_giveBack_114 : decode cX0_giveBack 114 = .ok (.iconst 0, 1) := by decide +kernel
theorem dX0_giveBack_115 : decode cX0_giveBack 115 = .ok (.ireturn, 1) := by decide +kernel
set_option maxRecDepth 20000 in
theorem ggX0_moveUp_J7_fill_53178 : GoodIn wsX0_moveUp wsJ7_fill_53178 := goodIn_r _ [7] (by decide +kernel) (by decide +kernel)
set_option maxRecDepth 20000 in
theorem gX0_moveUp_J7_fill_53178 : GoodIn wsX0_moveUp (va_wsS RX0 34 yJ7_fill_53178 wsJ7_fill_53178) := goodIn_app (goodIn_of _ (by decide +kernel)) ggX0_moveUp_J7_fill_53178
theorem dX0_moveUp_0 : decode cX0_moveUp 0 = .ok (.aload_n 3, 1) := by decide +kernel
theorem dX0_moveUp_1 : decode cX0_moveUp 1 = .ok (.iconst 0, 1) := by decide +kernel
theorem dX0_moveUp_2 : decode cX0_moveUp 2 = .ok (.invokestatic 34, 3) := by decide +kernel
theorem dX0_moveUp_5 : decode cX0_moveUp 5 = .ok (.iload_n 2, 1) := by decide +kernel
theorem dX0_moveUp_6 : decode cX0_moveUp 6 = .ok (.bipush 32, 2) := by decide +kernel
theorem dX0_moveUp_8 : decode cX0_moveUp 8 = .ok (.idiv, 1) := by decide +kernel
theorem dX0_moveUp_9 : decode cX0_moveUp 9 = .ok (.istore 4, 2) := by decide +kernel
theorem dX0_moveUp_11 : decode cX0_moveUp 11 = .ok (.iload_n 2, 1) := by decide +kernel
theorem dX0_moveUp_12 : decode cX0_moveUp 12 = .ok (.bipush 32, 2) := by decide +kernel
theorem dX0_moveUp_14 : decode cX0_moveUp 14 = .ok (.irem, 1) := by decide +kernel
theorem dX0_moveUp_15 : decode cX0_moveUp 15 = .ok (.istore 5, 2) := by decide +kernel
theorem dX0_moveUp_17 : decode cX0_moveUp 17 = .ok (.iconst 0, 1) := by decide +kernel
theorem dX0_moveUp_18 : decode cX0_moveUp 18 = .ok (.istore 6, 2) := by decide +kernel
theorem dX0_moveUp_20 : decode cX0_moveUp 20 = .ok (.iload 6, 2) := by decide +kernel
theorem dX0_moveUp_22 : decode cX0_moveUp 22 = .ok (.aload_n 0, 1) := by decide +kernel
theorem dX0_moveUp_23 : decode cX0_moveUp 23 = .ok (.getfield 14, 3) := by decide +kernel
theorem dX0_moveUp_26 : decode cX0_moveUp 26 = .ok (.iload_n 1, 1) := by decide +kernel
theorem dX0_moveUp_27 : decode cX0_moveUp 27 = .ok (.iaload, 1) := by decide +kernel
theorem dX0_moveUp_28 : decode cX0_moveUp 28 = .ok (.if_icmp .ge 56, 3) := by decide +kernel
theorem dX0_moveUp_31 : decode cX0_moveUp 31 = .ok (.aload_n 0, 1) := by decide +kernel
theorem dX0_moveUp_32 : decode cX0_moveUp 32 = .ok (.getfield 11, 3) := by decide +kernel
theorem dX0_moveUp_35 : decode cX0_moveUp 35 = .ok (.iload_n 1, 1) := by decide +kernel
theorem dX0_moveUp_36 : decode cX0_moveUp 36 = .ok (.aaload, 1) := by decide +kernel
theorem dX0_moveUp_37 : decode cX0_moveUp 37 = .ok (.iload 6, 2) := by decide +kernel
theorem dX0_moveUp_39 : decode cX0_moveUp 39 = .ok (.iaload, 1) := by decide +kernel
theorem dX0_moveUp_40 : decode cX0_moveUp 40 = .ok (.i2l, 1) := by decide +kernel
theorem dX0_moveUp_41 : decode cX0_moveUp 41 = .ok (.ldc2_w 108, 3) := by decide +kernel
theorem dX0_moveUp_44 : decode cX0_moveUp 44 = .ok (.land, 1) := by decide +kernel
theorem dX0_moveUp_45 : decode cX0_moveUp 45 = .ok (.iload 5, 2) := by decide +kernel
theorem dX0_moveUp_47 : decode cX0_moveUp 47 = .ok (.lshl, 1) := by decide +kernel
theorem dX0_moveUp_48 : decode cX0_moveUp 48 = .ok (.lstore 7, 2) := by decide +kernel
theorem dX0_moveUp_50 : decode cX0_moveUp 50 = .ok (.aload_n 3, 1) := by decide +kernel
theorem dX0_moveUp_51 : decode cX0_moveUp 51 = .ok (.iload 6, 2) := by decide +kernel
theorem dX0_moveUp_53 : decode cX0_moveUp 53 = .ok (.iload 4, 2) := by decide +kernel
theorem dX0_moveUp_55 : decode cX0_moveUp 55 = .ok (.iadd, 1) := by decide +kernel
theorem dX0_moveUp_56 : decode cX0_moveUp 56 = .ok (.dup2, 1) := by decide +kernel
theorem dX0_moveUp_57 : decode cX0_moveUp 57 = .ok (.iaload, 1) := by decide +kernel
theorem dX0_moveUp_58 : decode cX0_moveUp 58 = .ok (.lload 7, 2) := by decide +kernel
theorem dX0_moveUp_60 : decode cX0_moveUp 60 = .ok (.l2i, 1) := by decide +kernel
theorem dX0_moveUp_61 : decode cX0_moveUp 61 = .ok (.ior, 1) := by decide +kernel
theorem dX0_moveUp_62 : decode cX0_moveUp 62 = .ok (.iastore, 1) := by decide +kernel
theorem dX0_moveUp_63 : decode cX0_moveUp 63 = .ok (.aload_n 3, 1) := by decide +kernel
theorem dX0_moveUp_64 : decode cX0_moveUp 64 = .ok (.iload 6, 2) := by decide +kernel
theorem dX0_moveUp_66 : decode cX0_moveUp 66 = .ok (.iload 4, 2) := by decide +kernel
theorem dX0_moveUp_68 : decode cX0_moveUp 68 = .ok (.iadd, 1) := by decide +kernel
theorem dX0_moveUp_69 : decode cX0_moveUp 69 = .ok (.iconst 1, 1) := by decide +kernel
theorem dX0_moveUp_70 : decode cX0_moveUp 70 = .ok (.iadd, 1) := by decide +kernel
theorem dX0_moveUp_71 : decode cX0_moveUp 71 = .ok (.lload 7, 2) := by decide +kernel
theorem dX0_moveUp_73 : decode cX0_moveUp 73 = .ok (.bipush 32, 2) := by decide +kernel
theorem dX0_moveUp_75 : decode cX0_moveUp 75 = .ok (.lushr, 1) := by decide +kernel
theorem dX0_moveUp_76 : decode cX0_moveUp 76 = .ok (.l2i, 1) := by decide +kernel
theorem dX0_moveUp_77 : decode cX0_moveUp 77 = .ok (.iastore, 1) := by decide +kernel
theorem dX0_moveUp_78 : decode cX0_moveUp 78 = .ok (.iinc 6 1, 3) := by decide +kernel
theorem dX0_moveUp_81 : decode cX0_moveUp 81 = .ok (.goto (-61), 3) := by decide +kernel
theorem dX0_moveUp_84 : decode cX0_moveUp 84 = .ok (.return_, 1) := by decide +kernel
set_option maxRecDepth 20000 in
theorem ggX0_moveDown_J7_fill_53178 : GoodIn wsX0_moveDown wsJ7_fill_53178 := goodIn_r _ [5] (by decide +kernel) (by decide +kernel)
set_option maxRecDepth 20000 in
theorem gX0_moveDown_J7_fill_53178 : GoodIn wsX0_moveDown (va_wsS RX0 34 yJ7_fill_53178 wsJ7_fill_53178) := goodIn_app (goodIn_of _ (by decide +kernel)) ggX0_moveDown_J7_fill_53178
set_option maxRecDepth 20000 in
theorem ggX0_moveDown_X0_pairOf : GoodIn wsX0_moveDown wsX0_pairOf := goodIn_r _ [9, 10] (by decide +kernel) (by decide +kernel)
set_option maxRecDepth 20000 in
theorem gX0_moveDown_X0_pairOf : GoodIn wsX0_moveDown (va_wsS RX0 102 yX0_pairOf wsX0_pairOf) := goodIn_app (goodIn_of _ (by decide +kernel)) ggX0_moveDown_X0_pairOf
theorem dX0_moveDown_0 : decode cX0_moveDown 0 = .ok (.aload_n 0, 1) := by decide +kernel
theorem dX0_moveDown_1 : decode cX0_moveDown 1 = .ok (.getfield 21, 3) := by decide +kernel
theorem dX0_moveDown_4 : decode cX0_moveDown 4 = .ok (.iconst 0, 1) := by decide +kernel
theorem dX0_moveDown_5 : decode cX0_moveDown 5 = .ok (.invokestatic 34, 3) := by decide +kernel
theorem dX0_moveDown_8 : decode cX0_moveDown 8 = .ok (.iconst 0, 1) := by decide +kernel
theorem dX0_moveDown_9 : decode cX0_moveDown 9 = .ok (.istore 4, 2) := by decide +kernel
theorem dX0_moveDown_11 : decode cX0_moveDown 11 = .ok (.iload 4, 2) := by decide +kernel
theorem dX0_moveDown_13 : decode cX0_moveDown 13 = .ok (.iload_n 2, 1) := by decide +kernel
theorem dX0_moveDown_14 : decode cX0_moveDown 14 = .ok (.if_icmp .ge 49, 3) := by decide +kernel
theorem dX0_moveDown_17 : decode cX0_moveDown 17 = .ok (.iload 4, 2) := by decide +kernel
theorem dX0_moveDown_19 : decode cX0_moveDown 19 = .ok (.iconst 1, 1) := by decide +kernel
theorem dX0_moveDown_20 : decode cX0_moveDown 20 = .ok (.iadd, 1) := by decide +kernel
theorem dX0_moveDown_21 : decode cX0_moveDown 21 = .ok (.iload_n 2, 1) := by decide +kernel
theorem dX0_moveDown_22 : decode cX0_moveDown 22 = .ok (.if_icmp .ge 13, 3) := by decide +kernel
theorem dX0_moveDown_25 : decode cX0_moveDown 25 = .ok (.aload_n 1, 1) := by decide +kernel
theorem dX0_moveDown_26 : decode cX0_moveDown 26 = .ok (.iload 4, 2) := by decide +kernel
theorem dX0_moveDown_28 : decode cX0_moveDown 28 = .ok (.iconst 1, 1) := by decide +kernel
theorem dX0_moveDown_29 : decode cX0_moveDown 29 = .ok (.iadd, 1) := by decide +kernel
theorem dX0_moveDown_30 : decode cX0_moveDown 30 = .ok (.iaload, 1) := by decide +kernel
theorem dX0_moveDown_31 : decode cX0_moveDown 31 = .ok (.i2l, 1) := by decide +kernel
theorem dX0_moveDown_32 : decode cX0_moveDown 32 = .ok (.goto 4, 3) := by decide +kernel
theorem dX0_moveDown_35 : decode cX0_moveDown 35 = .ok (.lconst 0, 1) := by decide +kernel
theorem dX0_moveDown_36 : decode cX0_moveDown 36 = .ok (.lstore 5, 2) := by decide +kernel
theorem dX0_moveDown_38 : decode cX0_moveDown 38 = .ok (.aload_n 0, 1) := by decide +kernel
theorem dX0_moveDown_39 : decode cX0_moveDown 39 = .ok (.getfield 21, 3) := by decide +kernel
theorem dX0_moveDown_42 : decode cX0_moveDown 42 = .ok (.iload 4, 2) := by decide +kernel
theorem dX0_moveDown_44 : decode cX0_moveDown 44 = .ok (.lload 5, 2) := by decide +kernel
theorem dX0_moveDown_46 : decode cX0_moveDown 46 = .ok (.aload_n 1, 1) := by decide +kernel
theorem dX0_moveDown_47 : decode cX0_moveDown 47 = .ok (.iload 4, 2) := by decide +kernel
theorem dX0_moveDown_49 : decode cX0_moveDown 49 = .ok (.iaload, 1) := by decide +kernel
theorem dX0_moveDown_50 : decode cX0_moveDown 50 = .ok (.invokestatic 102, 3) := by decide +kernel
theorem dX0_moveDown_53 : decode cX0_moveDown 53 = .ok (.iload_n 3, 1) := by decide +kernel
theorem dX0_moveDown_54 : decode cX0_moveDown 54 = .ok (.lushr, 1) := by decide +kernel
theorem dX0_moveDown_55 : decode cX0_moveDown 55 = .ok (.l2i, 1) := by decide +kernel
theorem dX0_moveDown_56 : decode cX0_moveDown 56 = .ok (.iastore, 1) := by decide +kernel
theorem dX0_moveDown_57 : decode cX0_moveDown 57 = .ok (.iinc 4 1, 3) := by decide +kernel
theorem dX0_moveDown_60 : decode cX0_moveDown 60 = .ok (.goto (-49), 3) := by decide +kernel
theorem dX0_moveDown_63 : decode cX0_moveDown 63 = .ok (.return_, 1) := by decide +kernel
end
section
theorem dX1_init_0 : decode cX1_init 0 = .ok (.aload_n 0, 1) := by decide +kernel
theorem dX1_init_1 : decode cX1_init 1 = .ok (.invokespecial 1, 3) := by decide +kernel
theorem dX1_init_4 : decode cX1_init 4 = .ok (.aload_n 0, 1) := by decide +kernel
theorem dX1_init_5 : decode cX1_init 5 = .ok (.bipush 16, 2) := by decide +kernel
theorem dX1_init_7 : decode cX1_init 7 = .ok (.newarray .int, 2) := by decide +kernel
theorem dX1_init_9 : decode cX1_init 9 = .ok (.putfield 7, 3) := by decide +kernel
theorem dX1_init_12 : decode cX1_init 12 = .ok (.aload_n 0, 1) := by decide +kernel
theorem dX1_init_13 : decode cX1_init 13 = .ok (.ldc 13, 2) := by decide +kernel
theorem dX1_init_15 : decode cX1_init 15 = .ok (.newarray .int, 2) := by decide +kernel
theorem dX1_init_17 : decode cX1_init 17 = .ok (.putfield 14, 3) := by decide +kernel
theorem dX1_init_20 : decode cX1_init 20 = .ok (.return_, 1) := by decide +kernel
theorem dX1_thrown_0 : decode cX1_thrown 0 = .ok (.aload_n 0, 1) := by decide +kernel
theorem dX1_thrown_1 : decode cX1_thrown 1 = .ok (.getfield 17, 3) := by decide +kernel
theorem dX1_thrown_4 : decode cX1_thrown 4 = .ok (.ireturn, 1) := by decide +kernel
theorem dX1_isRegister_0 : decode cX1_isRegister 0 = .ok (.iload_n 0, 1) := by decide +kernel
theorem dX1_isRegister_1 : decode cX1_isRegister 1 = .ok (.ifCond .lt 13, 3) := by decide +kernel
theorem dX1_isRegister_4 : decode cX1_isRegister 4 = .ok (.iload_n 0, 1) := by decide +kernel
theorem dX1_isRegister_5 : decode cX1_isRegister 5 = .ok (.bipush 12, 2) := by decide +kernel
theorem dX1_isRegister_7 : decode cX1_isRegister 7 = .ok (.if_icmp .ge 7, 3) := by decide +kernel
theorem dX1_isRegister_10 : decode cX1_isRegister 10 = .ok (.iconst 1, 1) := by decide +kernel
theorem dX1_isRegister_11 : decode cX1_isRegister 11 = .ok (.goto 4, 3) := by decide +kernel
theorem dX1_isRegister_14 : decode cX1_isRegister 14 = .ok (.iconst 0, 1) := by decide +kernel
theorem dX1_isRegister_15 : decode cX1_isRegister 15 = .ok (.ireturn, 1) := by decide +kernel
theorem dX1_get_0 : decode cX1_get 0 = .ok (.aload_n 0, 1) := by decide +kernel
theorem dX1_get_1 : decode cX1_get 1 = .ok (.getfield 14, 3) := by decide +kernel
theorem dX1_get_4 : decode cX1_get 4 = .ok (.sipush 2100, 3) := by decide +kernel
theorem dX1_get_7 : decode cX1_get 7 = .ok (.iload_n 1, 1) := by decide +kernel
theorem dX1_get_8 : decode cX1_get 8 = .ok (.imul, 1) := by decide +kernel
theorem dX1_get_9 : decode cX1_get 9 = .ok (.iload_n 2, 1) := by decide +kernel
theorem dX1_get_10 : decode cX1_get 10 = .ok (.iadd, 1) := by decide +kernel
theorem dX1_get_11 : decode cX1_get 11 = .ok (.iaload, 1) := by decide +kernel
theorem dX1_get_12 : decode cX1_get 12 = .ok (.ireturn, 1) := by decide +kernel
theorem dX1_put_0 : decode cX1_put 0 = .ok (.aload_n 0, 1) := by decide +kernel
theorem dX1_put_1 : decode cX1_put 1 = .ok (.getfield 14, 3) := by decide +kernel
theorem dX1_put_4 : decode cX1_put 4 = .ok (.sipush 2100, 3) := by decide +kernel
theorem dX1_put_7 : decode cX1_put 7 = .ok (.iload_n 1, 1) := by decide +kernel
theorem dX1_put_8 : decode cX1_put 8 = .ok (.imul, 1) := by decide +kernel
theorem dX1_put_9 : decode cX1_put 9 = .ok (.iload_n 2, 1) := by decide +kernel
theorem dX1_put_10 : decode cX1_put 10 = .ok (.iadd, 1) := by decide +kernel
theorem dX1_put_11 : decode cX1_put 11 = .ok (.iload_n 3, 1) := by decide +kernel
theorem dX1_put_12 : decode cX1_put 12 = .ok (.iastore, 1) := by decide +kernel
theorem dX1_put_13 : decode cX1_put 13 = .ok (.return_, 1) := by decide +kernel
set_option maxRecDepth 20000 in
theorem ggX1_clear_X1_put : GoodIn wsX1_clear wsX1_put := goodIn_r _ [6, 7, 8, 9, 10] (by decide +kernel) (by decide +kernel)
set_option maxRecDepth 20000 in
theorem gX1_clear_X1_put : GoodIn wsX1_clear (wsV RX1 21 RX1 yX1_put wsX1_put) := goodIn_app (goodIn_of _ (by decide +kernel)) ggX1_clear_X1_put
theorem dX1_clear_0 : decode cX1_clear 0 = .ok (.iconst 0, 1) := by decide +kernel
theorem dX1_clear_1 : decode cX1_clear 1 = .ok (.istore_n 2, 1) := by decide +kernel
theorem dX1_clear_2 : decode cX1_clear 2 = .ok (.iload_n 2, 1) := by decide +kernel
theorem dX1_clear_3 : decode cX1_clear 3 = .ok (.sipush 2100, 3) := by decide +kernel
theorem dX1_clear_6 : decode cX1_clear 6 = .ok (.if_icmp .ge 16, 3) := by decide +kernel
theorem dX1_clear_9 : decode cX1_clear 9 = .ok (.aload_n 0, 1) := by decide +kernel
theorem dX1_clear_10 : decode cX1_clear 10 = .ok (.iload_n 1, 1) := by decide +kernel
theorem dX1_clear_11 : decode cX1_clear 11 = .ok (.iload_n 2, 1) := by decide +kernel
theorem dX1_clear_12 : decode cX1_clear 12 = .ok (.iconst 0, 1) := by decide +kernel
theorem dX1_clear_13 : decode cX1_clear 13 = .ok (.invokevirtual 21, 3) := by decide +kernel
theorem dX1_clear_16 : decode cX1_clear 16 = .ok (.iinc 2 1, 3) := by decide +kernel
theorem dX1_clear_19 : decode cX1_clear 19 = .ok (.goto (-17), 3) := by decide +kernel
theorem dX1_clear_22 : decode cX1_clear 22 = .ok (.aload_n 0, 1) := by decide +kernel
theorem dX1_clear_23 : decode cX1_clear 23 = .ok (.getfield 7, 3) := by decide +kernel
theorem dX1_clear_26 : decode cX1_clear 26 = .ok (.iload_n 1, 1) := by decide +kernel
theorem dX1_clear_27 : decode cX1_clear 27 = .ok (.iconst 0, 1) := by decide +kernel
theorem dX1_clear_28 : decode cX1_clear 28 = .ok (.iastore, 1) := by decide +kernel
theorem dX1_clear_29 : decode cX1_clear 29 = .ok (.return_, 1) := by decide +kernel
set_option maxRecDepth 20000 in
theorem ggX1_move_X1_get : GoodIn wsX1_move wsX1_get := goodIn_r _ [6, 7, 12, 13, 14] (by decide +kernel) (by decide +kernel)
set_option maxRecDepth 20000 in
theorem gX1_move_X1_get : GoodIn wsX1_move (wsV RX1 25 RX1 yX1_get wsX1_get) := goodIn_app (goodIn_of _ (by decide +kernel)) ggX1_move_X1_get
set_option maxRecDepth 20000 in
theorem ggX1_move_X1_put : GoodIn wsX1_move wsX1_put := goodIn_r _ [11, 7, 12, 13, 14] (by decide +kernel) (by decide +kernel)
set_option maxRecDepth 20000 in
theorem gX1_move_X1_put : GoodIn wsX1_move (wsV RX1 21 RX1 yX1_put wsX1_put) := goodIn_app (goodIn_of _ (by decide +kernel)) ggX1_move_X1_put
theorem dX1_move_0 : decode cX1_move 0 = .ok (.iconst 0, 1) := by decide +kernel
theorem dX1_move_1 : decode cX1_move 1 = .ok (.istore_n 3, 1) := by decide +kernel
theorem dX1_move_2 : decode cX1_move 2 = .ok (.iload_n 3, 1) := by decide +kernel
theorem dX1_move_3 : decode cX1_move 3 = .ok (.sipush 2100, 3) := by decide +kernel
theorem dX1_move_6 : decode cX1_move 6 = .ok (.if_icmp .ge 21, 3) := by decide +kernel
theorem dX1_move_9 : decode cX1_move 9 = .ok (.aload_n 0, 1) := by decide +kernel
theorem dX1_move_10 : decode cX1_move 10 = .ok (.iload_n 1, 1) := by decide +kernel
theorem dX1_move_11 : decode cX1_move 11 = .ok (.iload_n 3, 1) := by decide +kernel
theorem dX1_move_12 : decode cX1_move 12 = .ok (.aload_n 0, 1) := by decide +kernel
theorem dX1_move_13 : decode cX1_move 13 = .ok (.iload_n 2, 1) := by decide +kernel
theorem dX1_move_14 : decode cX1_move 14 = .ok (.iload_n 3, 1) := by decide +kernel
theorem dX1_move_15 : decode cX1_move 15 = .ok (.invokevirtual 25, 3) := by decide +kernel
theorem dX1_move_18 : decode cX1_move 18 = .ok (.invokevirtual 21, 3) := by decide +kernel
theorem dX1_move_21 : decode cX1_move 21 = .ok (.iinc 3 1, 3) := by decide +kernel
theorem dX1_move_24 : decode cX1_move 24 = .ok (.goto (-22), 3) := by decide +kernel
theorem dX1_move_27 : decode cX1_move 27 = .ok (.aload_n 0, 1) := by decide +kernel
theorem dX1_move_28 : decode cX1_move 28 = .ok (.getfield 7, 3) := by decide +kernel
theorem dX1_move_31 : decode cX1_move 31 = .ok (.iload_n 1, 1) := by decide +kernel
theorem dX1_move_32 : decode cX1_move 32 = .ok (.aload_n 0, 1) := by decide +kernel
theorem dX1_move_33 : decode cX1_move 33 = .ok (.getfield 7, 3) := by decide +kernel
theorem dX1_move_36 : decode cX1_move 36 = .ok (.iload_n 2, 1) := by decide +kernel
theorem dX1_move_37 : decode cX1_move 37 = .ok (.iaload, 1) := by decide +kernel
theorem dX1_move_38 : decode cX1_move 38 = .ok (.iastore, 1) := by decide +kernel
theorem dX1_move_39 : decode cX1_move 39 = .ok (.return_, 1) := by decide +kernel
set_option maxRecDepth 20000 in
theorem ggX1_length_X1_get : GoodIn wsX1_length wsX1_get := goodIn_r _ [5, 6, 7, 8, 9] (by decide +kernel) (by decide +kernel)
set_option maxRecDepth 20000 in
theorem gX1_length_X1_get : GoodIn wsX1_length (wsV RX1 25 RX1 yX1_get wsX1_get) := goodIn_app (goodIn_of _ (by decide +kernel)) ggX1_length_X1_get
theorem dX1_length_0 : decode cX1_length 0 = .ok (.sipush 2100, 3) := by decide +kernel
theorem dX1_length_3 : decode cX1_length 3 = .ok (.istore_n 2, 1) := by decide +kernel
theorem dX1_length_4 : decode cX1_length 4 = .ok (.iload_n 2, 1) := by decide +kernel
theorem dX1_length_5 : decode cX1_length 5 = .ok (.ifCond .le 20, 3) := by decide +kernel
theorem dX1_length_8 : decode cX1_length 8 = .ok (.aload_n 0, 1) := by decide +kernel
theorem dX1_length_9 : decode cX1_length 9 = .ok (.iload_n 1, 1) := by decide +kernel
theorem dX1_length_10 : decode cX1_length 10 = .ok (.iload_n 2, 1) := by decide +kernel
theorem dX1_length_11 : decode cX1_length 11 = .ok (.iconst 1, 1) := by decide +kernel
theorem dX1_length_12 : decode cX1_length 12 = .ok (.isub, 1) := by decide +kernel
theorem dX1_length_13 : decode cX1_length 13 = .ok (.invokevirtual 25, 3) := by decide +kernel
theorem dX1_length_16 : decode cX1_length 16 = .ok (.ifCond .ne 9, 3) := by decide +kernel
theorem dX1_length_19 : decode cX1_length 19 = .ok (.iinc 2 (-1), 3) := by decide +kernel
theorem dX1_length_22 : decode cX1_length 22 = .ok (.goto (-18), 3) := by decide +kernel
theorem dX1_length_25 : decode cX1_length 25 = .ok (.iload_n 2, 1) := by decide +kernel
theorem dX1_length_26 : decode cX1_length 26 = .ok (.ireturn, 1) := by decide +kernel
set_option maxRecDepth 20000 in
theorem ggX1_bitsOf_X1_length : GoodIn wsX1_bitsOf wsX1_length := goodIn_r _ [5, 6, 7, 8, 4, 9, 10, 11, 12, 13] (by decide +kernel) (by decide +kernel)
set_option maxRecDepth 20000 in
theorem gX1_bitsOf_X1_length : GoodIn wsX1_bitsOf (wsV RX1 29 RX1 yX1_length wsX1_length) := goodIn_app (goodIn_of _ (by decide +kernel)) ggX1_bitsOf_X1_length
set_option maxRecDepth 20000 in
theorem ggX1_bitsOf_X1_get : GoodIn wsX1_bitsOf wsX1_get := goodIn_r _ [9, 10, 11, 12, 13] (by decide +kernel) (by decide +kernel)
set_option maxRecDepth 20000 in
theorem gX1_bitsOf_X1_get : GoodIn wsX1_bitsOf (wsV RX1 25 RX1 yX1_get wsX1_get) := goodIn_app (goodIn_of _ (by decide +kernel)) ggX1_bitsOf_X1_get
theorem dX1_bitsOf_0 : decode cX1_bitsOf 0 = .ok (.aload_n 0, 1) := by decide +kernel
theorem dX1_bitsOf_1 : decode cX1_bitsOf 1 = .ok (.iload_n 1, 1) := by decide +kernel
theorem dX1_bitsOf_2 : decode cX1_bitsOf 2 = .ok (.invokevirtual 29, 3) := by decide +kernel
theorem dX1_bitsOf_5 : decode cX1_bitsOf 5 = .ok (.istore_n 2, 1) := by decide +kernel
theorem dX1_bitsOf_6 : decode cX1_bitsOf 6 = .ok (.iload_n 2, 1) := by decide +kernel
theorem dX1_bitsOf_7 : decode cX1_bitsOf 7 = .ok (.ifCond .ne 5, 3) := by decide +kernel
theorem dX1_bitsOf_10 : decode cX1_bitsOf 10 = .ok (.iconst 0, 1) := by decide +kernel
theorem dX1_bitsOf_11 : decode cX1_bitsOf 11 = .ok (.ireturn, 1) := by decide +kernel
theorem dX1_bitsOf_12 : decode cX1_bitsOf 12 = .ok (.bipush 16, 2) := by decide +kernel
theorem dX1_bitsOf_14 : decode cX1_bitsOf 14 = .ok (.iload_n 2, 1) := by decide +kernel
theorem dX1_bitsOf_15 : decode cX1_bitsOf 15 = .ok (.imul, 1) := by decide +kernel
theorem dX1_bitsOf_16 : decode cX1_bitsOf 16 = .ok (.bipush 16, 2) := by decide +kernel
theorem dX1_bitsOf_18 : decode cX1_bitsOf 18 = .ok (.isub, 1) := by decide +kernel
theorem dX1_bitsOf_19 : decode cX1_bitsOf 19 = .ok (.istore_n 3, 1) := by decide +kernel
theorem dX1_bitsOf_20 : decode cX1_bitsOf 20 = .ok (.aload_n 0, 1) := by decide +kernel
theorem dX1_bitsOf_21 : decode cX1_bitsOf 21 = .ok (.iload_n 1, 1) := by decide +kernel
theorem dX1_bitsOf_22 : decode cX1_bitsOf 22 = .ok (.iload_n 2, 1) := by decide +kernel
theorem dX1_bitsOf_23 : decode cX1_bitsOf 23 = .ok (.iconst 1, 1) := by decide +kernel
theorem dX1_bitsOf_24 : decode cX1_bitsOf 24 = .ok (.isub, 1) := by decide +kernel
theorem dX1_bitsOf_25 : decode cX1_bitsOf 25 = .ok (.invokevirtual 25, 3) := by decide +kernel
theorem dX1_bitsOf_28 : decode cX1_bitsOf 28 = .ok (.istore 4, 2) := by decide +kernel
theorem dX1_bitsOf_30 : decode cX1_bitsOf 30 = .ok (.iload 4, 2) := by decide +kernel
theorem dX1_bitsOf_32 : decode cX1_bitsOf 32 = .ok (.ifCond .le 15, 3) := by decide +kernel
theorem dX1_bitsOf_35 : decode cX1_bitsOf 35 = .ok (.iinc 3 1, 3) := by decide +kernel
theorem dX1_bitsOf_38 : decode cX1_bitsOf 38 = .ok (.iload 4, 2) := by decide +kernel
theorem dX1_bitsOf_40 : decode cX1_bitsOf 40 = .ok (.iconst 1, 1) := by decide +kernel
theorem dX1_bitsOf_41 : decode cX1_bitsOf 41 = .ok (.ishr, 1) := by decide +kernel
theorem dX1_bitsOf_42 : decode cX1_bitsOf 42 = .ok (.istore 4, 2) := by decide +kernel
theorem dX1_bitsOf_44 : decode cX1_bitsOf 44 = .ok (.goto (-14), 3) := by decide +kernel
theorem dX1_bitsOf_47 : decode cX1_bitsOf 47 = .ok (.iload_n 3, 1) := by decide +kernel
theorem dX1_bitsOf_48 : decode cX1_bitsOf 48 = .ok (.ireturn, 1) := by decide +kernel
set_option maxRecDepth 20000 in
theorem ggX1_bit_X1_get : GoodIn wsX1_bit wsX1_get := goodIn_r _ [5, 6, 7, 8, 9] (by decide +kernel) (by decide +kernel)
set_option maxRecDepth 20000 in
theorem gX1_bit_X1_get : GoodIn wsX1_bit (wsV RX1 25 RX1 yX1_get wsX1_get) := goodIn_app (goodIn_of _ (by decide +kernel)) ggX1_bit_X1_get
theorem dX1_bit_0 : decode cX1_bit 0 = .ok (.aload_n 0, 1) := by decide +kernel
theorem dX1_bit_1 : decode cX1_bit 1 = .ok (.iload_n 1, 1) := by decide +kernel
theorem dX1_bit_2 : decode cX1_bit 2 = .ok (.iload_n 2, 1) := by decide +kernel
theorem dX1_bit_3 : decode cX1_bit 3 = .ok (.bipush 16, 2) := by decide +kernel
theorem dX1_bit_5 : decode cX1_bit 5 = .ok (.idiv, 1) := by decide +kernel
theorem dX1_bit_6 : decode cX1_bit 6 = .ok (.invokevirtual 25, 3) := by decide +kernel
theorem dX1_bit_9 : decode cX1_bit 9 = .ok (.iload_n 2, 1) := by decide +kernel
theorem dX1_bit_10 : decode cX1_bit 10 = .ok (.bipush 16, 2) := by decide +kernel
theorem dX1_bit_12 : decode cX1_bit 12 = .ok (.irem, 1) := by decide +kernel
theorem dX1_bit_13 : decode cX1_bit 13 = .ok (.ishr, 1) := by decide +kernel
theorem dX1_bit_14 : decode cX1_bit 14 = .ok (.iconst 1, 1) := by decide +kernel
theorem dX1_bit_15 : decode cX1_bit 15 = .ok (.iand, 1) := by decide +kernel
theorem dX1_bit_16 : decode cX1_bit 16 = .ok (.ireturn, 1) := by decide +kernel
set_option maxRecDepth 20000 in
theorem ggX1_order_X1_get : GoodIn wsX1_order wsX1_get := goodIn_r _ [5, 6, 7, 8, 9] (by decide +kernel) (by decide +kernel)
set_option maxRecDepth 20000 in
theorem gX1_order_X1_get : GoodIn wsX1_order (wsV RX1 25 RX1 yX1_get wsX1_get) := goodIn_app (goodIn_of _ (by decide +kernel)) ggX1_order_X1_get
theorem dX1_order_0 : decode cX1_order 0 = .ok (.sipush 2099, 3) := by decide +kernel
theorem dX1_order_3 : decode cX1_order 3 = .ok (.istore_n 3, 1) := by decide +kernel
theorem dX1_order_4 : decode cX1_order 4 = .ok (.iload_n 3, 1) := by decide +kernel
theorem dX1_order_5 : decode cX1_order 5 = .ok (.ifCond .lt 45, 3) := by decide +kernel
theorem dX1_order_8 : decode cX1_order 8 = .ok (.aload_n 0, 1) := by decide +kernel
theorem dX1_order_9 : decode cX1_order 9 = .ok (.iload_n 1, 1) := by decide +kernel
theorem dX1_order_10 : decode cX1_order 10 = .ok (.iload_n 3, 1) := by decide +kernel
theorem dX1_order_11 : decode cX1_order 11 = .ok (.invokevirtual 25, 3) := by decide +kernel
theorem dX1_order_14 : decode cX1_order 14 = .ok (.aload_n 0, 1) := by decide +kernel
theorem dX1_order_15 : decode cX1_order 15 = .ok (.iload_n 2, 1) := by decide +kernel
theorem dX1_order_16 : decode cX1_order 16 = .ok (.iload_n 3, 1) := by decide +kernel
theorem dX1_order_17 : decode cX1_order 17 = .ok (.invokevirtual 25, 3) := by decide +kernel
theorem dX1_order_20 : decode cX1_order 20 = .ok (.if_icmp .eq 24, 3) := by decide +kernel
theorem dX1_order_23 : decode cX1_order 23 = .ok (.aload_n 0, 1) := by decide +kernel
theorem dX1_order_24 : decode cX1_order 24 = .ok (.iload_n 1, 1) := by decide +kernel
theorem dX1_order_25 : decode cX1_order 25 = .ok (.iload_n 3, 1) := by decide +kernel
theorem dX1_order_26 : decode cX1_order 26 = .ok (.invokevirtual 25, 3) := by decide +kernel
theorem dX1_order_29 : decode cX1_order 29 = .ok (.aload_n 0, 1) := by decide +kernel
theorem dX1_order_30 : decode cX1_order 30 = .ok (.iload_n 2, 1) := by decide +kernel
theorem dX1_order_31 : decode cX1_order 31 = .ok (.iload_n 3, 1) := by decide +kernel
theorem dX1_order_32 : decode cX1_order 32 = .ok (.invokevirtual 25, 3) := by decide +kernel
theorem dX1_order_35 : decode cX1_order 35 = .ok (.if_icmp .ge 7, 3) := by decide +kernel
theorem dX1_order_38 : decode cX1_order 38 = .ok (.iconst (-1), 1) := by decide +kernel
theorem dX1_order_39 : decode cX1_order 39 = .ok (.goto 4, 3) := by decide +kernel
theorem dX1_order_42 : decode cX1_order 42 = .ok (.iconst 1, 1) := by decide +kernel
theorem dX1_order_43 : decode cX1_order 43 = .ok (.ireturn, 1) := by decide +kernel
theorem dX1_order_44 : decode cX1_order 44 = .ok (.iinc 3 (-1), 3) := by decide +kernel
theorem dX1_order_47 : decode cX1_order 47 = .ok (.goto (-43), 3) := by decide +kernel
theorem dX1_order_50 : decode cX1_order 50 = .ok (.iconst 0, 1) := by decide +kernel
theorem dX1_order_51 : decode cX1_order 51 = .ok (.ireturn, 1) := by decide +kernel
set_option maxRecDepth 20000 in
theorem ggX1_give_X1_length : GoodIn wsX1_give wsX1_length := goodIn_r _ [7, 8, 9, 10, 6, 11, 12, 21, 22, 23] (by decide +kernel) (by decide +kernel)
set_option maxRecDepth 20000 in
theorem gX1_give_X1_length : GoodIn wsX1_give (wsV RX1 29 RX1 yX1_length wsX1_length) := goodIn_app (goodIn_of _ (by decide +kernel)) ggX1_give_X1_length
set_option maxRecDepth 20000 in
theorem ggX1_give_X1_move : GoodIn wsX1_give wsX1_move := goodIn_r _ [16, 2, 8, 9, 10, 6, 11, 12, 17, 18, 19, 20, 21, 22, 23] (by decide +kernel) (by decide +kernel)
set_option maxRecDepth 20000 in
theorem gX1_give_X1_move : GoodIn wsX1_give (wsV RX1 33 RX1 yX1_move wsX1_move) := goodIn_app (goodIn_of _ (by decide +kernel)) ggX1_give_X1_move
theorem dX1_give_0 : decode cX1_give 0 = .ok (.aload_n 0, 1) := by decide +kernel
theorem dX1_give_1 : decode cX1_give 1 = .ok (.bipush 12, 2) := by decide +kernel
theorem dX1_give_3 : decode cX1_give 3 = .ok (.invokevirtual 29, 3) := by decide +kernel
theorem dX1_give_6 : decode cX1_give 6 = .ok (.sipush 1024, 3) := by decide +kernel
theorem dX1_give_9 : decode cX1_give 9 = .ok (.if_icmp .le 9, 3) := by decide +kernel
theorem dX1_give_12 : decode cX1_give 12 = .ok (.aload_n 0, 1) := by decide +kernel
theorem dX1_give_13 : decode cX1_give 13 = .ok (.iconst 2, 1) := by decide +kernel
theorem dX1_give_14 : decode cX1_give 14 = .ok (.putfield 17, 3) := by decide +kernel
theorem dX1_give_17 : decode cX1_give 17 = .ok (.return_, 1) := by decide +kernel
theorem dX1_give_18 : decode cX1_give 18 = .ok (.aload_n 0, 1) := by decide +kernel
theorem dX1_give_19 : decode cX1_give 19 = .ok (.bipush 12, 2) := by decide +kernel
theorem dX1_give_21 : decode cX1_give 21 = .ok (.invokevirtual 29, 3) := by decide +kernel
theorem dX1_give_24 : decode cX1_give 24 = .ok (.ifCond .ne 11, 3) := by decide +kernel
theorem dX1_give_27 : decode cX1_give 27 = .ok (.aload_n 0, 1) := by decide +kernel
theorem dX1_give_28 : decode cX1_give 28 = .ok (.getfield 7, 3) := by decide +kernel
theorem dX1_give_31 : decode cX1_give 31 = .ok (.bipush 12, 2) := by decide +kernel
theorem dX1_give_33 : decode cX1_give 33 = .ok (.iconst 0, 1) := by decide +kernel
theorem dX1_give_34 : decode cX1_give 34 = .ok (.iastore, 1) := by decide +kernel
theorem dX1_give_35 : decode cX1_give 35 = .ok (.aload_n 0, 1) := by decide +kernel
theorem dX1_give_36 : decode cX1_give 36 = .ok (.iload_n 1, 1) := by decide +kernel
theorem dX1_give_37 : decode cX1_give 37 = .ok (.bipush 12, 2) := by decide +kernel
theorem dX1_give_39 : decode cX1_give 39 = .ok (.invokevirtual 33, 3) := by decide +kernel
theorem dX1_give_42 : decode cX1_give 42 = .ok (.return_, 1) := by decide +kernel
set_option maxRecDepth 20000 in
theorem ggX1_set_X1_isRegister : GoodIn wsX1_set wsX1_isRegister := goodIn_r _ [7] (by decide +kernel) (by decide +kernel)
set_option maxRecDepth 20000 in
theorem gX1_set_X1_isRegister : GoodIn wsX1_set (va_wsS RX1 37 yX1_isRegister wsX1_isRegister) := goodIn_app (goodIn_of _ (by decide +kernel)) ggX1_set_X1_isRegister
set_option maxRecDepth 20000 in
theorem ggX1_set_X1_clear : GoodIn wsX1_set wsX1_clear := goodIn_r _ [11, 2, 12, 13, 14, 6, 15, 16, 17, 18, 19] (by decide +kernel) (by decide +kernel)
set_option maxRecDepth 20000 in
theorem gX1_set_X1_clear : GoodIn wsX1_set (wsV RX1 41 RX1 yX1_clear wsX1_clear) := goodIn_app (goodIn_of _ (by decide +kernel)) ggX1_set_X1_clear
set_option maxRecDepth 20000 in
theorem ggX1_set_X1_put : GoodIn wsX1_set wsX1_put := goodIn_r _ [15, 16, 17, 18, 19] (by decide +kernel) (by decide +kernel)
set_option maxRecDepth 20000 in
theorem gX1_set_X1_put : GoodIn wsX1_set (wsV RX1 21 RX1 yX1_put wsX1_put) := goodIn_app (goodIn_of _ (by decide +kernel)) ggX1_set_X1_put
theorem dX1_set_0 : decode cX1_set 0 = .ok (.aload_n 0, 1) := by decide +kernel
theorem dX1_set_1 : decode cX1_set 1 = .ok (.iload_n 1, 1) := by decide +kernel
theorem dX1_set_2 : decode cX1_set 2 = .ok (.invokestatic 37, 3) := by decide +kernel
theorem dX1_set_5 : decode cX1_set 5 = .ok (.ifCond .eq 7, 3) := by decide +kernel
theorem dX1_set_8 : decode cX1_set 8 = .ok (.iconst 0, 1) := by decide +kernel
theorem dX1_set_9 : decode cX1_set 9 = .ok (.goto 4, 3) := by decide +kernel
theorem dX1_set_12 : decode cX1_set 12 = .ok (.iconst 1, 1) := by decide +kernel
theorem dX1_set_13 : decode cX1_set 13 = .ok (.putfield 17, 3) := by decide +kernel
theorem dX1_set_16 : decode cX1_set 16 = .ok (.aload_n 0, 1) := by decide +kernel
theorem dX1_set_17 : decode cX1_set 17 = .ok (.getfield 17, 3) := by decide +kernel
theorem dX1_set_20 : decode cX1_set 20 = .ok (.ifCond .le 4, 3) := by decide +kernel
theorem dX1_set_23 : decode cX1_set 23 = .ok (.return_, 1) := by decide +kernel
theorem dX1_set_24 : decode cX1_set 24 = .ok (.aload_n 0, 1) := by decide +kernel
theorem dX1_set_25 : decode cX1_set 25 = .ok (.iload_n 1, 1) := by decide +kernel
theorem dX1_set_26 : decode cX1_set 26 = .ok (.invokevirtual 41, 3) := by decide +kernel
theorem dX1_set_29 : decode cX1_set 29 = .ok (.aload_n 0, 1) := by decide +kernel
theorem dX1_set_30 : decode cX1_set 30 = .ok (.getfield 7, 3) := by decide +kernel
theorem dX1_set_33 : decode cX1_set 33 = .ok (.iload_n 1, 1) := by decide +kernel
theorem dX1_set_34 : decode cX1_set 34 = .ok (.lload_n 2, 1) := by decide +kernel
theorem dX1_set_35 : decode cX1_set 35 = .ok (.lconst 0, 1) := by decide +kernel
theorem dX1_set_36 : decode cX1_set 36 = .ok (.lcmp, 1) := by decide +kernel
theorem dX1_set_37 : decode cX1_set 37 = .ok (.ifCond .le 7, 3) := by decide +kernel
theorem dX1_set_40 : decode cX1_set 40 = .ok (.iconst 1, 1) := by decide +kernel
theorem dX1_set_41 : decode cX1_set 41 = .ok (.goto 14, 3) := by decide +kernel
theorem dX1_set_44 : decode cX1_set 44 = .ok (.lload_n 2, 1) := by decide +kernel
theorem dX1_set_45 : decode cX1_set 45 = .ok (.lconst 0, 1) := by decide +kernel
theorem dX1_set_46 : decode cX1_set 46 = .ok (.lcmp, 1) := by decide +kernel
theorem dX1_set_47 : decode cX1_set 47 = .ok (.ifCond .ge 7, 3) := by decide +kernel
theorem dX1_set_50 : decode cX1_set 50 = .ok (.iconst (-1), 1) := by decide +kernel
theorem dX1_set_51 : decode cX1_set 51 = .ok (.goto 4, 3) := by decide +kernel
theorem dX1_set_54 : decode cX1_set 54 = .ok (.iconst 0, 1) := by decide +kernel
theorem dX1_set_55 : decode cX1_set 55 = .ok (.iastore, 1) := by decide +kernel
theorem dX1_set_56 : decode cX1_set 56 = .ok (.lload_n 2, 1) := by decide +kernel
theorem dX1_set_57 : decode cX1_set 57 = .ok (.lconst 0, 1) := by decide +kernel
theorem dX1_set_58 : decode cX1_set 58 = .ok (.lcmp, 1) := by decide +kernel
theorem dX1_set_59 : decode cX1_set 59 = .ok (.ifCond .ge 7, 3) := by decide +kernel
theorem dX1_set_62 : decode cX1_set 62 = .ok (.iconst 1, 1) := by decide +kernel
theorem dX1_set_63 : decode cX1_set 63 = .ok (.goto 4, 3) := by decide +kernel
theorem dX1_set_66 : decode cX1_set 66 = .ok (.iconst 0, 1) := by decide +kernel
theorem dX1_set_67 : decode cX1_set 67 = .ok (.istore 4, 2) := by decide +kernel
theorem dX1_set_69 : decode cX1_set 69 = .ok (.iconst 0, 1) := by decide +kernel
theorem dX1_set_70 : decode cX1_set 70 = .ok (.istore 5, 2) := by decide +kernel
theorem dX1_set_72 : decode cX1_set 72 = .ok (.iload 5, 2) := by decide +kernel
theorem dX1_set_74 : decode cX1_set 74 = .ok (.iconst 4, 1) := by decide +kernel
theorem dX1_set_75 : decode cX1_set 75 = .ok (.if_icmp .ge 57, 3) := by decide +kernel
theorem dX1_set_78 : decode cX1_set 78 = .ok (.lload_n 2, 1) := by decide +kernel
theorem dX1_set_79 : decode cX1_set 79 = .ok (.bipush 16, 2) := by decide +kernel
theorem dX1_set_81 : decode cX1_set 81 = .ok (.iload 5, 2) := by decide +kernel
theorem dX1_set_83 : decode cX1_set 83 = .ok (.imul, 1) := by decide +kernel
theorem dX1_set_84 : decode cX1_set 84 = .ok (.lshr, 1) := by decide +kernel
theorem dX1_set_85 : decode cX1_set 85 = .ok (.l2i, 1) := by decide +kernel
theorem dX1_set_86 : decode cX1_set 86 = .ok (.ldc 45, 2) := by decide +kernel
theorem dX1_set_88 : decode cX1_set 88 = .ok (.iand, 1) := by decide +kernel
theorem dX1_set_89 : decode cX1_set 89 = .ok (.istore 6, 2) := by decide +kernel
theorem dX1_set_91 : decode cX1_set 91 = .ok (.lload_n 2, 1) := by decide +kernel
theorem dX1_set_92 : decode cX1_set 92 = .ok (.lconst 0, 1) := by decide +kernel
theorem dX1_set_93 : decode cX1_set 93 = .ok (.lcmp, 1) := by decide +kernel
theorem dX1_set_94 : decode cX1_set 94 = .ok (.ifCond .ge 20, 3) := by decide +kernel
theorem dX1_set_97 : decode cX1_set 97 = .ok (.ldc 45, 2) := by decide +kernel
theorem dX1_set_99 : decode cX1_set 99 = .ok (.iload 6, 2) := by decide +kernel
theorem dX1_set_101 : decode cX1_set 101 = .ok (.isub, 1) := by decide +kernel
theorem dX1_set_102 : decode cX1_set 102 = .ok (.iload 4, 2) := by decide +kernel
theorem dX1_set_104 : decode cX1_set 104 = .ok (.iadd, 1) := by decide +kernel
theorem dX1_set_105 : decode cX1_set 105 = .ok (.istore 6, 2) := by decide +kernel
theorem dX1_set_107 : decode cX1_set 107 = .ok (.iload 6, 2) := by decide +kernel
theorem dX1_set_109 : decode cX1_set 109 = .ok (.bipush 16, 2) := by decide +kernel
theorem dX1_set_111 : decode cX1_set 111 = .ok (.ishr, 1) := by decide +kernel
theorem dX1_set_112 : decode cX1_set 112 = .ok (.istore 4, 2) := by decide +kernel
theorem dX1_set_114 : decode cX1_set 114 = .ok (.aload_n 0, 1) := by decide +kernel
theorem dX1_set_115 : decode cX1_set 115 = .ok (.iload_n 1, 1) := by decide +kernel
theorem dX1_set_116 : decode cX1_set 116 = .ok (.iload 5, 2) := by decide +kernel
theorem dX1_set_118 : decode cX1_set 118 = .ok (.iload 6, 2) := by decide +kernel
theorem dX1_set_120 : decode cX1_set 120 = .ok (.ldc 45, 2) := by decide +kernel
theorem dX1_set_122 : decode cX1_set 122 = .ok (.iand, 1) := by decide +kernel
theorem dX1_set_123 : decode cX1_set 123 = .ok (.invokevirtual 21, 3) := by decide +kernel
theorem dX1_set_126 : decode cX1_set 126 = .ok (.iinc 5 1, 3) := by decide +kernel
theorem dX1_set_129 : decode cX1_set 129 = .ok (.goto (-57), 3) := by decide +kernel
theorem dX1_set_132 : decode cX1_set 132 = .ok (.return_, 1) := by decide +kernel
set_option maxRecDepth 20000 in
theorem ggX1_append_X1_isRegister : GoodIn wsX1_append wsX1_isRegister := goodIn_r _ [7] (by decide +kernel) (by decide +kernel)
set_option maxRecDepth 20000 in
theorem gX1_append_X1_isRegister : GoodIn wsX1_append (va_wsS RX1 37 yX1_isRegister wsX1_isRegister) := goodIn_app (goodIn_of _ (by decide +kernel)) ggX1_append_X1_isRegister
set_option maxRecDepth 20000 in
theorem ggX1_append_X1_clear : GoodIn wsX1_append wsX1_clear := goodIn_r _ [11, 3, 12, 13, 14, 6, 15, 16, 33, 34, 35] (by decide +kernel) (by decide +kernel)
set_option maxRecDepth 20000 in
theorem gX1_append_X1_clear : GoodIn wsX1_append (wsV RX1 41 RX1 yX1_clear wsX1_clear) := goodIn_app (goodIn_of _ (by decide +kernel)) ggX1_append_X1_clear
set_option maxRecDepth 20000 in
theorem ggX1_append_X1_get : GoodIn wsX1_append wsX1_get := goodIn_r _ [20, 16, 33, 34, 35] (by decide +kernel) (by decide +kernel)
set_option maxRecDepth 20000 in
theorem gX1_append_X1_get : GoodIn wsX1_append (wsV RX1 25 RX1 yX1_get wsX1_get) := goodIn_app (goodIn_of _ (by decide +kernel)) ggX1_append_X1_get
set_option maxRecDepth 20000 in
theorem ggX1_append_X1_put : GoodIn wsX1_append wsX1_put := goodIn_r _ [15, 16, 33, 34, 35] (by decide +kernel) (by decide +kernel)
set_option maxRecDepth 20000 in
theorem gX1_append_X1_put : GoodIn wsX1_append (wsV RX1 21 RX1 yX1_put wsX1_put) := goodIn_app (goodIn_of _ (by decide +kernel)) ggX1_append_X1_put
set_option maxRecDepth 20000 in
theorem ggX1_append_X1_give : GoodIn wsX1_append wsX1_give := goodIn_r _ [24, 1, 3, 25, 26, 27, 6, 28, 17, 18, 19, 20, 16, 29, 30, 31, 32, 12, 13, 14, 15, 33, 34, 35] (by decide +kernel) (by decide +kernel)
set_option maxRecDepth 20000 in
theorem gX1_append_X1_give : GoodIn wsX1_append (wsV RX1 46 RX1 yX1_give wsX1_give) := goodIn_app (goodIn_of _ (by decide +kernel)) ggX1_append_X1_give
theorem dX1_append_0 : decode cX1_append 0 = .ok (.aload_n 0, 1) := by decide +kernel
theorem dX1_append_1 : decode cX1_append 1 = .ok (.iload_n 1, 1) := by decide +kernel
theorem dX1_append_2 : decode cX1_append 2 = .ok (.invokestatic 37, 3) := by decide +kernel
theorem dX1_append_5 : decode cX1_append 5 = .ok (.ifCond .eq 7, 3) := by decide +kernel
theorem dX1_append_8 : decode cX1_append 8 = .ok (.iconst 0, 1) := by decide +kernel
theorem dX1_append_9 : decode cX1_append 9 = .ok (.goto 4, 3) := by decide +kernel
theorem dX1_append_12 : decode cX1_append 12 = .ok (.iconst 1, 1) := by decide +kernel
theorem dX1_append_13 : decode cX1_append 13 = .ok (.putfield 17, 3) := by decide +kernel
theorem dX1_append_16 : decode cX1_append 16 = .ok (.aload_n 0, 1) := by decide +kernel
theorem dX1_append_17 : decode cX1_append 17 = .ok (.getfield 17, 3) := by decide +kernel
theorem dX1_append_20 : decode cX1_append 20 = .ok (.ifCond .le 4, 3) := by decide +kernel
theorem dX1_append_23 : decode cX1_append 23 = .ok (.return_, 1) := by decide +kernel
theorem dX1_append_24 : decode cX1_append 24 = .ok (.aload_n 0, 1) := by decide +kernel
theorem dX1_append_25 : decode cX1_append 25 = .ok (.bipush 12, 2) := by decide +kernel
theorem dX1_append_27 : decode cX1_append 27 = .ok (.invokevirtual 41, 3) := by decide +kernel
theorem dX1_append_30 : decode cX1_append 30 = .ok (.iconst 0, 1) := by decide +kernel
theorem dX1_append_31 : decode cX1_append 31 = .ok (.istore_n 3, 1) := by decide +kernel
theorem dX1_append_32 : decode cX1_append 32 = .ok (.iload_n 3, 1) := by decide +kernel
theorem dX1_append_33 : decode cX1_append 33 = .ok (.sipush 1024, 3) := by decide +kernel
theorem dX1_append_36 : decode cX1_append 36 = .ok (.if_icmp .ge 24, 3) := by decide +kernel
theorem dX1_append_39 : decode cX1_append 39 = .ok (.aload_n 0, 1) := by decide +kernel
theorem dX1_append_40 : decode cX1_append 40 = .ok (.bipush 12, 2) := by decide +kernel
theorem dX1_append_42 : decode cX1_append 42 = .ok (.iload_n 3, 1) := by decide +kernel
theorem dX1_append_43 : decode cX1_append 43 = .ok (.iconst 2, 1) := by decide +kernel
theorem dX1_append_44 : decode cX1_append 44 = .ok (.iadd, 1) := by decide +kernel
theorem dX1_append_45 : decode cX1_append 45 = .ok (.aload_n 0, 1) := by decide +kernel
theorem dX1_append_46 : decode cX1_append 46 = .ok (.iload_n 1, 1) := by decide +kernel
theorem dX1_append_47 : decode cX1_append 47 = .ok (.iload_n 3, 1) := by decide +kernel
theorem dX1_append_48 : decode cX1_append 48 = .ok (.invokevirtual 25, 3) := by decide +kernel
theorem dX1_append_51 : decode cX1_append 51 = .ok (.invokevirtual 21, 3) := by decide +kernel
theorem dX1_append_54 : decode cX1_append 54 = .ok (.iinc 3 1, 3) := by decide +kernel
theorem dX1_append_57 : decode cX1_append 57 = .ok (.goto (-25), 3) := by decide +kernel
theorem dX1_append_60 : decode cX1_append 60 = .ok (.aload_n 0, 1) := by decide +kernel
theorem dX1_append_61 : decode cX1_append 61 = .ok (.bipush 12, 2) := by decide +kernel
theorem dX1_append_63 : decode cX1_append 63 = .ok (.iconst 0, 1) := by decide +kernel
theorem dX1_append_64 : decode cX1_append 64 = .ok (.iload_n 2, 1) := by decide +kernel
theorem dX1_append_65 : decode cX1_append 65 = .ok (.ldc 45, 2) := by decide +kernel
theorem dX1_append_67 : decode cX1_append 67 = .ok (.iand, 1) := by decide +kernel
theorem dX1_append_68 : decode cX1_append 68 = .ok (.invokevirtual 21, 3) := by decide +kernel
theorem dX1_append_71 : decode cX1_append 71 = .ok (.aload_n 0, 1) := by decide +kernel
theorem dX1_append_72 : decode cX1_append 72 = .ok (.bipush 12, 2) := by decide +kernel
theorem dX1_append_74 : decode cX1_append 74 = .ok (.iconst 1, 1) := by decide +kernel
theorem dX1_append_75 : decode cX1_append 75 = .ok (.iload_n 2, 1) := by decide +kernel
theorem dX1_append_76 : decode cX1_append 76 = .ok (.bipush 16, 2) := by decide +kernel
theorem dX1_append_78 : decode cX1_append 78 = .ok (.iushr, 1) := by decide +kernel
theorem dX1_append_79 : decode cX1_append 79 = .ok (.invokevirtual 21, 3) := by decide +kernel
theorem dX1_append_82 : decode cX1_append 82 = .ok (.aload_n 0, 1) := by decide +kernel
theorem dX1_append_83 : decode cX1_append 83 = .ok (.getfield 7, 3) := by decide +kernel
theorem dX1_append_86 : decode cX1_append 86 = .ok (.bipush 12, 2) := by decide +kernel
theorem dX1_append_88 : decode cX1_append 88 = .ok (.aload_n 0, 1) := by decide +kernel
theorem dX1_append_89 : decode cX1_append 89 = .ok (.getfield 7, 3) := by decide +kernel
theorem dX1_append_92 : decode cX1_append 92 = .ok (.iload_n 1, 1) := by decide +kernel
theorem dX1_append_93 : decode cX1_append 93 = .ok (.iaload, 1) := by decide +kernel
theorem dX1_append_94 : decode cX1_append 94 = .ok (.ifCond .ge 7, 3) := by decide +kernel
theorem dX1_append_97 : decode cX1_append 97 = .ok (.iconst (-1), 1) := by decide +kernel
theorem dX1_append_98 : decode cX1_append 98 = .ok (.goto 4, 3) := by decide +kernel
theorem dX1_append_101 : decode cX1_append 101 = .ok (.iconst 1, 1) := by decide +kernel
theorem dX1_append_102 : decode cX1_append 102 = .ok (.iastore, 1) := by decide +kernel
theorem dX1_append_103 : decode cX1_append 103 = .ok (.aload_n 0, 1) := by decide +kernel
theorem dX1_append_104 : decode cX1_append 104 = .ok (.iload_n 1, 1) := by decide +kernel
theorem dX1_append_105 : decode cX1_append 105 = .ok (.invokevirtual 46, 3) := by decide +kernel
theorem dX1_append_108 : decode cX1_append 108 = .ok (.return_, 1) := by decide +kernel
set_option maxRecDepth 20000 in
theorem ggX1_negate_X1_isRegister : GoodIn wsX1_negate wsX1_isRegister := goodIn_r _ [6] (by decide +kernel) (by decide +kernel)
set_option maxRecDepth 20000 in
theorem gX1_negate_X1_isRegister : GoodIn wsX1_negate (va_wsS RX1 37 yX1_isRegister wsX1_isRegister) := goodIn_app (goodIn_of _ (by decide +kernel)) ggX1_negate_X1_isRegister
theorem dX1_negate_0 : decode cX1_negate 0 = .ok (.aload_n 0, 1) := by decide +kernel
theorem dX1_negate_1 : decode cX1_negate 1 = .ok (.iload_n 1, 1) := by decide +kernel
theorem dX1_negate_2 : decode cX1_negate 2 = .ok (.invokestatic 37, 3) := by decide +kernel
theorem dX1_negate_5 : decode cX1_negate 5 = .ok (.ifCond .eq 7, 3) := by decide +kernel
theorem dX1_negate_8 : decode cX1_negate 8 = .ok (.iconst 0, 1) := by decide +kernel
theorem dX1_negate_9 : decode cX1_negate 9 = .ok (.goto 4, 3) := by decide +kernel
theorem dX1_negate_12 : decode cX1_negate 12 = .ok (.iconst 1, 1) := by decide +kernel
theorem dX1_negate_13 : decode cX1_negate 13 = .ok (.putfield 17, 3) := by decide +kernel
theorem dX1_negate_16 : decode cX1_negate 16 = .ok (.aload_n 0, 1) := by decide +kernel
theorem dX1_negate_17 : decode cX1_negate 17 = .ok (.getfield 17, 3) := by decide +kernel
theorem dX1_negate_20 : decode cX1_negate 20 = .ok (.ifCond .ne 16, 3) := by decide +kernel
theorem dX1_negate_23 : decode cX1_negate 23 = .ok (.aload_n 0, 1) := by decide +kernel
theorem dX1_negate_24 : decode cX1_negate 24 = .ok (.getfield 7, 3) := by decide +kernel
theorem dX1_negate_27 : decode cX1_negate 27 = .ok (.iload_n 1, 1) := by decide +kernel
theorem dX1_negate_28 : decode cX1_negate 28 = .ok (.aload_n 0, 1) := by decide +kernel
theorem dX1_negate_29 : decode cX1_negate 29 = .ok (.getfield 7, 3) := by decide +kernel
theorem dX1_negate_32 : decode cX1_negate 32 = .ok (.iload_n 1, 1) := by decide +kernel
theorem dX1_negate_33 : decode cX1_negate 33 = .ok (.iaload, 1) := by decide +kernel
theorem dX1_negate_34 : decode cX1_negate 34 = .ok (.ineg, 1) := by decide +kernel
theorem dX1_negate_35 : decode cX1_negate 35 = .ok (.iastore, 1) := by decide +kernel
theorem dX1_negate_36 : decode cX1_negate 36 = .ok (.return_, 1) := by decide +kernel
set_option maxRecDepth 20000 in
theorem ggX1_copy_X1_isRegister : GoodIn wsX1_copy wsX1_isRegister := goodIn_r _ [5] (by decide +kernel) (by decide +kernel)
set_option maxRecDepth 20000 in
theorem gX1_copy_X1_isRegister : GoodIn wsX1_copy (va_wsS RX1 37 yX1_isRegister wsX1_isRegister) := goodIn_app (goodIn_of _ (by decide +kernel)) ggX1_copy_X1_isRegister
set_option maxRecDepth 20000 in
theorem ggX1_copy_X1_move : GoodIn wsX1_copy wsX1_move := goodIn_r _ [9, 10, 11, 12, 13, 4, 14, 15, 16, 17, 18, 19, 20, 21, 22] (by decide +kernel) (by decide +kernel)
set_option maxRecDepth 20000 in
theorem gX1_copy_X1_move : GoodIn wsX1_copy (wsV RX1 33 RX1 yX1_move wsX1_move) := goodIn_app (goodIn_of _ (by decide +kernel)) ggX1_copy_X1_move
theorem dX1_copy_0 : decode cX1_copy 0 = .ok (.aload_n 0, 1) := by decide +kernel
theorem dX1_copy_1 : decode cX1_copy 1 = .ok (.iload_n 1, 1) := by decide +kernel
theorem dX1_copy_2 : decode cX1_copy 2 = .ok (.invokestatic 37, 3) := by decide +kernel
theorem dX1_copy_5 : decode cX1_copy 5 = .ok (.ifCond .eq 14, 3) := by decide +kernel
theorem dX1_copy_8 : decode cX1_copy 8 = .ok (.iload_n 2, 1) := by decide +kernel
theorem dX1_copy_9 : decode cX1_copy 9 = .ok (.invokestatic 37, 3) := by decide +kernel
theorem dX1_copy_12 : decode cX1_copy 12 = .ok (.ifCond .eq 7, 3) := by decide +kernel
theorem dX1_copy_15 : decode cX1_copy 15 = .ok (.iconst 0, 1) := by decide +kernel
theorem dX1_copy_16 : decode cX1_copy 16 = .ok (.goto 4, 3) := by decide +kernel
theorem dX1_copy_19 : decode cX1_copy 19 = .ok (.iconst 1, 1) := by decide +kernel
theorem dX1_copy_20 : decode cX1_copy 20 = .ok (.putfield 17, 3) := by decide +kernel
theorem dX1_copy_23 : decode cX1_copy 23 = .ok (.aload_n 0, 1) := by decide +kernel
theorem dX1_copy_24 : decode cX1_copy 24 = .ok (.getfield 17, 3) := by decide +kernel
theorem dX1_copy_27 : decode cX1_copy 27 = .ok (.ifCond .ne 9, 3) := by decide +kernel
theorem dX1_copy_30 : decode cX1_copy 30 = .ok (.aload_n 0, 1) := by decide +kernel
theorem dX1_copy_31 : decode cX1_copy 31 = .ok (.iload_n 1, 1) := by decide +kernel
theorem dX1_copy_32 : decode cX1_copy 32 = .ok (.iload_n 2, 1) := by decide +kernel
theorem dX1_copy_33 : decode cX1_copy 33 = .ok (.invokevirtual 33, 3) := by decide +kernel
theorem dX1_copy_36 : decode cX1_copy 36 = .ok (.return_, 1) := by decide +kernel
set_option maxRecDepth 20000 in
theorem ggX1_take_X1_isRegister : GoodIn wsX1_take wsX1_isRegister := goodIn_r _ [5] (by decide +kernel) (by decide +kernel)
set_option maxRecDepth 20000 in
theorem gX1_take_X1_isRegister : GoodIn wsX1_take (va_wsS RX1 37 yX1_isRegister wsX1_isRegister) := goodIn_app (goodIn_of _ (by decide +kernel)) ggX1_take_X1_isRegister
set_option maxRecDepth 20000 in
theorem ggX1_take_X1_move : GoodIn wsX1_take wsX1_move := goodIn_r _ [9, 10, 11, 12, 13, 4, 14, 15, 16, 17, 18, 19, 24, 25, 26] (by decide +kernel) (by decide +kernel)
set_option maxRecDepth 20000 in
theorem gX1_take_X1_move : GoodIn wsX1_take (wsV RX1 33 RX1 yX1_move wsX1_move) := goodIn_app (goodIn_of _ (by decide +kernel)) ggX1_take_X1_move
set_option maxRecDepth 20000 in
theorem ggX1_take_X1_clear : GoodIn wsX1_take wsX1_clear := goodIn_r _ [23, 10, 16, 17, 18, 4, 19, 15, 24, 25, 26] (by decide +kernel) (by decide +kernel)
set_option maxRecDepth 20000 in
theorem gX1_take_X1_clear : GoodIn wsX1_take (wsV RX1 41 RX1 yX1_clear wsX1_clear) := goodIn_app (goodIn_of _ (by decide +kernel)) ggX1_take_X1_clear
theorem dX1_take_0 : decode cX1_take 0 = .ok (.aload_n 0, 1) := by decide +kernel
theorem dX1_take_1 : decode cX1_take 1 = .ok (.iload_n 1, 1) := by decide +kernel
theorem dX1_take_2 : decode cX1_take 2 = .ok (.invokestatic 37, 3) := by decide +kernel
theorem dX1_take_5 : decode cX1_take 5 = .ok (.ifCond .eq 21, 3) := by decide +kernel
theorem dX1_take_8 : decode cX1_take 8 = .ok (.iload_n 2, 1) := by decide +kernel
theorem dX1_take_9 : decode cX1_take 9 = .ok (.invokestatic 37, 3) := by decide +kernel
theorem dX1_take_12 : decode cX1_take 12 = .ok (.ifCond .eq 14, 3) := by decide +kernel
theorem dX1_take_15 : decode cX1_take 15 = .ok (.iload_n 3, 1) := by decide +kernel
theorem dX1_take_16 : decode cX1_take 16 = .ok (.invokestatic 37, 3) := by decide +kernel
theorem dX1_take_19 : decode cX1_take 19 = .ok (.ifCond .eq 7, 3) := by decide +kernel
theorem dX1_take_22 : decode cX1_take 22 = .ok (.iconst 0, 1) := by decide +kernel
theorem dX1_take_23 : decode cX1_take 23 = .ok (.goto 4, 3) := by decide +kernel
theorem dX1_take_26 : decode cX1_take 26 = .ok (.iconst 1, 1) := by decide +kernel
theorem dX1_take_27 : decode cX1_take 27 = .ok (.putfield 17, 3) := by decide +kernel
theorem dX1_take_30 : decode cX1_take 30 = .ok (.aload_n 0, 1) := by decide +kernel
theorem dX1_take_31 : decode cX1_take 31 = .ok (.getfield 17, 3) := by decide +kernel
theorem dX1_take_34 : decode cX1_take 34 = .ok (.ifCond .le 5, 3) := by decide +kernel
theorem dX1_take_37 : decode cX1_take 37 = .ok (.iconst 0, 1) := by decide +kernel
theorem dX1_take_38 : decode cX1_take 38 = .ok (.ireturn, 1) := by decide +kernel
theorem dX1_take_39 : decode cX1_take 39 = .ok (.aload_n 0, 1) := by decide +kernel
theorem dX1_take_40 : decode cX1_take 40 = .ok (.bipush 14, 2) := by decide +kernel
theorem dX1_take_42 : decode cX1_take 42 = .ok (.iload_n 2, 1) := by decide +kernel
theorem dX1_take_43 : decode cX1_take 43 = .ok (.invokevirtual 33, 3) := by decide +kernel
theorem dX1_take_46 : decode cX1_take 46 = .ok (.aload_n 0, 1) := by decide +kernel
theorem dX1_take_47 : decode cX1_take 47 = .ok (.bipush 15, 2) := by decide +kernel
theorem dX1_take_49 : decode cX1_take 49 = .ok (.iload_n 3, 1) := by decide +kernel
theorem dX1_take_50 : decode cX1_take 50 = .ok (.invokevirtual 33, 3) := by decide +kernel
theorem dX1_take_53 : decode cX1_take 53 = .ok (.aload_n 0, 1) := by decide +kernel
theorem dX1_take_54 : decode cX1_take 54 = .ok (.bipush 12, 2) := by decide +kernel
theorem dX1_take_56 : decode cX1_take 56 = .ok (.invokevirtual 41, 3) := by decide +kernel
theorem dX1_take_59 : decode cX1_take 59 = .ok (.iconst 1, 1) := by decide +kernel
theorem dX1_take_60 : decode cX1_take 60 = .ok (.ireturn, 1) := by decide +kernel
set_option maxRecDepth 20000 in
theorem ggX1_sum_X1_get : GoodIn wsX1_sum wsX1_get := goodIn_r _ [7, 8, 21, 22, 23] (by decide +kernel) (by decide +kernel)
set_option maxRecDepth 20000 in
theorem gX1_sum_X1_get : GoodIn wsX1_sum (wsV RX1 25 RX1 yX1_get wsX1_get) := goodIn_app (goodIn_of _ (by decide +kernel)) ggX1_sum_X1_get
set_option maxRecDepth 20000 in
theorem ggX1_sum_X1_put : GoodIn wsX1_sum wsX1_put := goodIn_r _ [12, 8, 21, 22, 23] (by decide +kernel) (by decide +kernel)
set_option maxRecDepth 20000 in
theorem gX1_sum_X1_put : GoodIn wsX1_sum (wsV RX1 21 RX1 yX1_put wsX1_put) := goodIn_app (goodIn_of _ (by decide +kernel)) ggX1_sum_X1_put
set_option maxRecDepth 20000 in
theorem ggX1_sum_X1_order : GoodIn wsX1_sum wsX1_order := goodIn_r _ [16, 3, 4, 5, 6, 7, 8, 21, 22, 23] (by decide +kernel) (by decide +kernel)
set_option maxRecDepth 20000 in
theorem gX1_sum_X1_order : GoodIn wsX1_sum (wsV RX1 49 RX1 yX1_order wsX1_order) := goodIn_app (goodIn_of _ (by decide +kernel)) ggX1_sum_X1_order
set_option maxRecDepth 20000 in
theorem ggX1_sum_X1_less : GoodIn wsX1_sum wsX1_less := goodIn_r _ [20, 3, 4, 5, 6, 7, 8, 9, 10, 11, 12, 21, 22, 23] (by decide +kernel) (by decide +kernel)
set_option maxRecDepth 20000 in
theorem gX1_sum_X1_less : GoodIn wsX1_sum (wsV RX1 52 RX1 yX1_less wsX1_less) := goodIn_app (goodIn_of _ (by decide +kernel)) ggX1_sum_X1_less
theorem dX1_sum_0 : decode cX1_sum 0 = .ok (.aload_n 0, 1) := by decide +kernel
theorem dX1_sum_1 : decode cX1_sum 1 = .ok (.getfield 7, 3) := by decide +kernel
theorem dX1_sum_4 : decode cX1_sum 4 = .ok (.bipush 14, 2) := by decide +kernel
theorem dX1_sum_6 : decode cX1_sum 6 = .ok (.iaload, 1) := by decide +kernel
theorem dX1_sum_7 : decode cX1_sum 7 = .ok (.aload_n 0, 1) := by decide +kernel
theorem dX1_sum_8 : decode cX1_sum 8 = .ok (.getfield 7, 3) := by decide +kernel
theorem dX1_sum_11 : decode cX1_sum 11 = .ok (.bipush 15, 2) := by decide +kernel
theorem dX1_sum_13 : decode cX1_sum 13 = .ok (.iaload, 1) := by decide +kernel
theorem dX1_sum_14 : decode cX1_sum 14 = .ok (.if_icmp .eq 23, 3) := by decide +kernel
theorem dX1_sum_17 : decode cX1_sum 17 = .ok (.aload_n 0, 1) := by decide +kernel
theorem dX1_sum_18 : decode cX1_sum 18 = .ok (.getfield 7, 3) := by decide +kernel
theorem dX1_sum_21 : decode cX1_sum 21 = .ok (.bipush 14, 2) := by decide +kernel
theorem dX1_sum_23 : decode cX1_sum 23 = .ok (.iaload, 1) := by decide +kernel
theorem dX1_sum_24 : decode cX1_sum 24 = .ok (.ifCond .eq 13, 3) := by decide +kernel
theorem dX1_sum_27 : decode cX1_sum 27 = .ok (.aload_n 0, 1) := by decide +kernel
theorem dX1_sum_28 : decode cX1_sum 28 = .ok (.getfield 7, 3) := by decide +kernel
theorem dX1_sum_31 : decode cX1_sum 31 = .ok (.bipush 15, 2) := by decide +kernel
theorem dX1_sum_33 : decode cX1_sum 33 = .ok (.iaload, 1) := by decide +kernel
theorem dX1_sum_34 : decode cX1_sum 34 = .ok (.ifCond .ne 89, 3) := by decide +kernel
theorem dX1_sum_37 : decode cX1_sum 37 = .ok (.iconst 0, 1) := by decide +kernel
theorem dX1_sum_38 : decode cX1_sum 38 = .ok (.istore_n 1, 1) := by decide +kernel
theorem dX1_sum_39 : decode cX1_sum 39 = .ok (.iconst 0, 1) := by decide +kernel
theorem dX1_sum_40 : decode cX1_sum 40 = .ok (.istore_n 2, 1) := by decide +kernel
theorem dX1_sum_41 : decode cX1_sum 41 = .ok (.iload_n 2, 1) := by decide +kernel
theorem dX1_sum_42 : decode cX1_sum 42 = .ok (.sipush 2100, 3) := by decide +kernel
theorem dX1_sum_45 : decode cX1_sum 45 = .ok (.if_icmp .ge 43, 3) := by decide +kernel
theorem dX1_sum_48 : decode cX1_sum 48 = .ok (.iload_n 1, 1) := by decide +kernel
theorem dX1_sum_49 : decode cX1_sum 49 = .ok (.aload_n 0, 1) := by decide +kernel
theorem dX1_sum_50 : decode cX1_sum 50 = .ok (.bipush 14, 2) := by decide +kernel
theorem dX1_sum_52 : decode cX1_sum 52 = .ok (.iload_n 2, 1) := by decide +kernel
theorem dX1_sum_53 : decode cX1_sum 53 = .ok (.invokevirtual 25, 3) := by decide +kernel
theorem dX1_sum_56 : decode cX1_sum 56 = .ok (.aload_n 0, 1) := by decide +kernel
theorem dX1_sum_57 : decode cX1_sum 57 = .ok (.bipush 15, 2) := by decide +kernel
theorem dX1_sum_59 : decode cX1_sum 59 = .ok (.iload_n 2, 1) := by decide +kernel
theorem dX1_sum_60 : decode cX1_sum 60 = .ok (.invokevirtual 25, 3) := by decide +kernel
theorem dX1_sum_63 : decode cX1_sum 63 = .ok (.iadd, 1) := by decide +kernel
theorem dX1_sum_64 : decode cX1_sum 64 = .ok (.iadd, 1) := by decide +kernel
theorem dX1_sum_65 : decode cX1_sum 65 = .ok (.istore_n 1, 1) := by decide +kernel
theorem dX1_sum_66 : decode cX1_sum 66 = .ok (.aload_n 0, 1) := by decide +kernel
theorem dX1_sum_67 : decode cX1_sum 67 = .ok (.bipush 12, 2) := by decide +kernel
theorem dX1_sum_69 : decode cX1_sum 69 = .ok (.iload_n 2, 1) := by decide +kernel
theorem dX1_sum_70 : decode cX1_sum 70 = .ok (.iload_n 1, 1) := by decide +kernel
theorem dX1_sum_71 : decode cX1_sum 71 = .ok (.ldc 45, 2) := by decide +kernel
theorem dX1_sum_73 : decode cX1_sum 73 = .ok (.iand, 1) := by decide +kernel
theorem dX1_sum_74 : decode cX1_sum 74 = .ok (.invokevirtual 21, 3) := by decide +kernel
theorem dX1_sum_77 : decode cX1_sum 77 = .ok (.iload_n 1, 1) := by decide +kernel
theorem dX1_sum_78 : decode cX1_sum 78 = .ok (.bipush 16, 2) := by decide +kernel
theorem dX1_sum_80 : decode cX1_sum 80 = .ok (.ishr, 1) := by decide +kernel
theorem dX1_sum_81 : decode cX1_sum 81 = .ok (.istore_n 1, 1) := by decide +kernel
theorem dX1_sum_82 : decode cX1_sum 82 = .ok (.iinc 2 1, 3) := by decide +kernel
theorem dX1_sum_85 : decode cX1_sum 85 = .ok (.goto (-44), 3) := by decide +kernel
theorem dX1_sum_88 : decode cX1_sum 88 = .ok (.aload_n 0, 1) := by decide +kernel
theorem dX1_sum_89 : decode cX1_sum 89 = .ok (.getfield 7, 3) := by decide +kernel
theorem dX1_sum_92 : decode cX1_sum 92 = .ok (.bipush 12, 2) := by decide +kernel
theorem dX1_sum_94 : decode cX1_sum 94 = .ok (.aload_n 0, 1) := by decide +kernel
theorem dX1_sum_95 : decode cX1_sum 95 = .ok (.getfield 7, 3) := by decide +kernel
theorem dX1_sum_98 : decode cX1_sum 98 = .ok (.bipush 14, 2) := by decide +kernel
theorem dX1_sum_100 : decode cX1_sum 100 = .ok (.iaload, 1) := by decide +kernel
theorem dX1_sum_101 : decode cX1_sum 101 = .ok (.ifCond .ne 13, 3) := by decide +kernel
theorem dX1_sum_104 : decode cX1_sum 104 = .ok (.aload_n 0, 1) := by decide +kernel
theorem dX1_sum_105 : decode cX1_sum 105 = .ok (.getfield 7, 3) := by decide +kernel
theorem dX1_sum_108 : decode cX1_sum 108 = .ok (.bipush 15, 2) := by decide +kernel
theorem dX1_sum_110 : decode cX1_sum 110 = .ok (.iaload, 1) := by decide +kernel
theorem dX1_sum_111 : decode cX1_sum 111 = .ok (.goto 10, 3) := by decide +kernel
theorem dX1_sum_114 : decode cX1_sum 114 = .ok (.aload_n 0, 1) := by decide +kernel
theorem dX1_sum_115 : decode cX1_sum 115 = .ok (.getfield 7, 3) := by decide +kernel
theorem dX1_sum_118 : decode cX1_sum 118 = .ok (.bipush 14, 2) := by decide +kernel
theorem dX1_sum_120 : decode cX1_sum 120 = .ok (.iaload, 1) := by decide +kernel
theorem dX1_sum_121 : decode cX1_sum 121 = .ok (.iastore, 1) := by decide +kernel
theorem dX1_sum_122 : decode cX1_sum 122 = .ok (.return_, 1) := by decide +kernel
theorem dX1_sum_123 : decode cX1_sum 123 = .ok (.aload_n 0, 1) := by decide +kernel
theorem dX1_sum_124 : decode cX1_sum 124 = .ok (.bipush 14, 2) := by decide +kernel
theorem dX1_sum_126 : decode cX1_sum 126 = .ok (.bipush 15, 2) := by decide +kernel
theorem dX1_sum_128 : decode cX1_sum 128 = .ok (.invokevirtual 49, 3) := by decide +kernel
theorem dX1_sum_131 : decode cX1_sum 131 = .ok (.ifCond .ge 7, 3) := by decide +kernel
theorem dX1_sum_134 : decode cX1_sum 134 = .ok (.iconst 1, 1) := by decide +kernel
theorem dX1_sum_135 : decode cX1_sum 135 = .ok (.goto 4, 3) := by decide +kernel
theorem dX1_sum_138 : decode cX1_sum 138 = .ok (.iconst 0, 1) := by decide +kernel
theorem dX1_sum_139 : decode cX1_sum 139 = .ok (.istore_n 1, 1) := by decide +kernel
theorem dX1_sum_140 : decode cX1_sum 140 = .ok (.iload_n 1, 1) := by decide +kernel
theorem dX1_sum_141 : decode cX1_sum 141 = .ok (.ifCond .eq 8, 3) := by decide +kernel
theorem dX1_sum_144 : decode cX1_sum 144 = .ok (.bipush 15, 2) := by decide +kernel
theorem dX1_sum_146 : decode cX1_sum 146 = .ok (.goto 5, 3) := by decide +kernel
theorem dX1_sum_149 : decode cX1_sum 149 = .ok (.bipush 14, 2) := by decide +kernel
theorem dX1_sum_151 : decode cX1_sum 151 = .ok (.istore_n 2, 1) := by decide +kernel
theorem dX1_sum_152 : decode cX1_sum 152 = .ok (.iload_n 1, 1) := by decide +kernel
theorem dX1_sum_153 : decode cX1_sum 153 = .ok (.ifCond .eq 8, 3) := by decide +kernel
theorem dX1_sum_156 : decode cX1_sum 156 = .ok (.bipush 14, 2) := by decide +kernel
theorem dX1_sum_158 : decode cX1_sum 158 = .ok (.goto 5, 3) := by decide +kernel
theorem dX1_sum_161 : decode cX1_sum 161 = .ok (.bipush 15, 2) := by decide +kernel
theorem dX1_sum_163 : decode cX1_sum 163 = .ok (.istore_n 3, 1) := by decide +kernel
theorem dX1_sum_164 : decode cX1_sum 164 = .ok (.aload_n 0, 1) := by decide +kernel
theorem dX1_sum_165 : decode cX1_sum 165 = .ok (.bipush 12, 2) := by decide +kernel
theorem dX1_sum_167 : decode cX1_sum 167 = .ok (.iload_n 2, 1) := by decide +kernel
theorem dX1_sum_168 : decode cX1_sum 168 = .ok (.iload_n 3, 1) := by decide +kernel
theorem dX1_sum_169 : decode cX1_sum 169 = .ok (.invokevirtual 52, 3) := by decide +kernel
theorem dX1_sum_172 : decode cX1_sum 172 = .ok (.aload_n 0, 1) := by decide +kernel
theorem dX1_sum_173 : decode cX1_sum 173 = .ok (.getfield 7, 3) := by decide +kernel
theorem dX1_sum_176 : decode cX1_sum 176 = .ok (.bipush 12, 2) := by decide +kernel
theorem dX1_sum_178 : decode cX1_sum 178 = .ok (.aload_n 0, 1) := by decide +kernel
theorem dX1_sum_179 : decode cX1_sum 179 = .ok (.getfield 7, 3) := by decide +kernel
theorem dX1_sum_182 : decode cX1_sum 182 = .ok (.iload_n 2, 1) := by decide +kernel
theorem dX1_sum_183 : decode cX1_sum 183 = .ok (.iaload, 1) := by decide +kernel
theorem dX1_sum_184 : decode cX1_sum 184 = .ok (.iastore, 1) := by decide +kernel
theorem dX1_sum_185 : decode cX1_sum 185 = .ok (.return_, 1) := by decide +kernel
set_option maxRecDepth 20000 in
theorem ggX1_less_X1_get : GoodIn wsX1_less wsX1_get := goodIn_r _ [5, 6, 11, 12, 13] (by decide +kernel) (by decide +kernel)
set_option maxRecDepth 20000 in
theorem gX1_less_X1_get : GoodIn wsX1_less (wsV RX1 25 RX1 yX1_get wsX1_get) := goodIn_app (goodIn_of _ (by decide +kernel)) ggX1_less_X1_get
set_option maxRecDepth 20000 in
theorem ggX1_less_X1_put : GoodIn wsX1_less wsX1_put := goodIn_r _ [10, 6, 11, 12, 13] (by decide +kernel) (by decide +kernel)
set_option maxRecDepth 20000 in
theorem gX1_less_X1_put : GoodIn wsX1_less (wsV RX1 21 RX1 yX1_put wsX1_put) := goodIn_app (goodIn_of _ (by decide +kernel)) ggX1_less_X1_put
theorem dX1_less_0 : decode cX1_less 0 = .ok (.iconst 0, 1) := by decide +kernel
theorem dX1_less_1 : decode cX1_less 1 = .ok (.istore 4, 2) := by decide +kernel
theorem dX1_less_3 : decode cX1_less 3 = .ok (.iconst 0, 1) := by decide +kernel
theorem dX1_less_4 : decode cX1_less 4 = .ok (.istore 5, 2) := by decide +kernel
theorem dX1_less_6 : decode cX1_less 6 = .ok (.iload 5, 2) := by decide +kernel
theorem dX1_less_8 : decode cX1_less 8 = .ok (.sipush 2100, 3) := by decide +kernel
theorem dX1_less_11 : decode cX1_less 11 = .ok (.if_icmp .ge 56, 3) := by decide +kernel
theorem dX1_less_14 : decode cX1_less 14 = .ok (.aload_n 0, 1) := by decide +kernel
theorem dX1_less_15 : decode cX1_less 15 = .ok (.iload_n 2, 1) := by decide +kernel
theorem dX1_less_16 : decode cX1_less 16 = .ok (.iload 5, 2) := by decide +kernel
theorem dX1_less_18 : decode cX1_less 18 = .ok (.invokevirtual 25, 3) := by decide +kernel
theorem dX1_less_21 : decode cX1_less 21 = .ok (.aload_n 0, 1) := by decide +kernel
theorem dX1_less_22 : decode cX1_less 22 = .ok (.iload_n 3, 1) := by decide +kernel
theorem dX1_less_23 : decode cX1_less 23 = .ok (.iload 5, 2) := by decide +kernel
theorem dX1_less_25 : decode cX1_less 25 = .ok (.invokevirtual 25, 3) := by decide +kernel
theorem dX1_less_28 : decode cX1_less 28 = .ok (.isub, 1) := by decide +kernel
theorem dX1_less_29 : decode cX1_less 29 = .ok (.iload 4, 2) := by decide +kernel
theorem dX1_less_31 : decode cX1_less 31 = .ok (.isub, 1) := by decide +kernel
theorem dX1_less_32 : decode cX1_less 32 = .ok (.istore 6, 2) := by decide +kernel
theorem dX1_less_34 : decode cX1_less 34 = .ok (.iload 6, 2) := by decide +kernel
theorem dX1_less_36 : decode cX1_less 36 = .ok (.ifCond .ge 7, 3) := by decide +kernel
theorem dX1_less_39 : decode cX1_less 39 = .ok (.iconst 1, 1) := by decide +kernel
theorem dX1_less_40 : decode cX1_less 40 = .ok (.goto 4, 3) := by decide +kernel
theorem dX1_less_43 : decode cX1_less 43 = .ok (.iconst 0, 1) := by decide +kernel
theorem dX1_less_44 : decode cX1_less 44 = .ok (.istore 4, 2) := by decide +kernel
theorem dX1_less_46 : decode cX1_less 46 = .ok (.aload_n 0, 1) := by decide +kernel
theorem dX1_less_47 : decode cX1_less 47 = .ok (.iload_n 1, 1) := by decide +kernel
theorem dX1_less_48 : decode cX1_less 48 = .ok (.iload 5, 2) := by decide +kernel
theorem dX1_less_50 : decode cX1_less 50 = .ok (.iload 6, 2) := by decide +kernel
theorem dX1_less_52 : decode cX1_less 52 = .ok (.iload 4, 2) := by decide +kernel
theorem dX1_less_54 : decode cX1_less 54 = .ok (.bipush 16, 2) := by decide +kernel
theorem dX1_less_56 : decode cX1_less 56 = .ok (.ishl, 1) := by decide +kernel
theorem dX1_less_57 : decode cX1_less 57 = .ok (.iadd, 1) := by decide +kernel
theorem dX1_less_58 : decode cX1_less 58 = .ok (.invokevirtual 21, 3) := by decide +kernel
theorem dX1_less_61 : decode cX1_less 61 = .ok (.iinc 5 1, 3) := by decide +kernel
theorem dX1_less_64 : decode cX1_less 64 = .ok (.goto (-58), 3) := by decide +kernel
theorem dX1_less_67 : decode cX1_less 67 = .ok (.return_, 1) := by decide +kernel
set_option maxRecDepth 20000 in
theorem ggX1_add_X1_take : GoodIn wsX1_add wsX1_take := goodIn_r _ [5, 6, 7, 8, 4, 9, 10, 11, 12, 13, 14, 15, 16, 17, 18, 19, 20, 21, 22, 23, 24, 25, 26, 27, 49, 50, 51] (by decide +kernel) (by decide +kernel)
set_option maxRecDepth 20000 in
theorem gX1_add_X1_take : GoodIn wsX1_add (wsV RX1 55 RX1 yX1_take wsX1_take) := goodIn_app (goodIn_of _ (by decide +kernel)) ggX1_add_X1_take
set_option maxRecDepth 20000 in
theorem ggX1_add_X1_sum : GoodIn wsX1_add wsX1_sum := goodIn_r _ [31, 14, 32, 15, 16, 17, 4, 18, 19, 20, 21, 22, 23, 33, 34, 35, 36, 37, 38, 39, 40, 49, 50, 51] (by decide +kernel) (by decide +kernel)
set_option maxRecDepth 20000 in
theorem gX1_add_X1_sum : GoodIn wsX1_add (wsV RX1 59 RX1 yX1_sum wsX1_sum) := goodIn_app (goodIn_of _ (by decide +kernel)) ggX1_add_X1_sum
set_option maxRecDepth 20000 in
theorem ggX1_add_X1_give : GoodIn wsX1_add wsX1_give := goodIn_r _ [44, 6, 14, 45, 46, 47, 4, 48, 15, 16, 17, 18, 19, 10, 11, 12, 13, 20, 21, 22, 23, 49, 50, 51] (by decide +kernel) (by decide +kernel)
set_option maxRecDepth 20000 in
theorem gX1_add_X1_give : GoodIn wsX1_add (wsV RX1 46 RX1 yX1_give wsX1_give) := goodIn_app (goodIn_of _ (by decide +kernel)) ggX1_add_X1_give
theorem dX1_add_0 : decode cX1_add 0 = .ok (.aload_n 0, 1) := by decide +kernel
theorem dX1_add_1 : decode cX1_add 1 = .ok (.iload_n 1, 1) := by decide +kernel
theorem dX1_add_2 : decode cX1_add 2 = .ok (.iload_n 2, 1) := by decide +kernel
theorem dX1_add_3 : decode cX1_add 3 = .ok (.iload_n 3, 1) := by decide +kernel
theorem dX1_add_4 : decode cX1_add 4 = .ok (.invokevirtual 55, 3) := by decide +kernel
theorem dX1_add_7 : decode cX1_add 7 = .ok (.ifCond .ne 4, 3) := by decide +kernel
theorem dX1_add_10 : decode cX1_add 10 = .ok (.return_, 1) := by decide +kernel
theorem dX1_add_11 : decode cX1_add 11 = .ok (.aload_n 0, 1) := by decide +kernel
theorem dX1_add_12 : decode cX1_add 12 = .ok (.invokevirtual 59, 3) := by decide +kernel
theorem dX1_add_15 : decode cX1_add 15 = .ok (.aload_n 0, 1) := by decide +kernel
theorem dX1_add_16 : decode cX1_add 16 = .ok (.iload_n 1, 1) := by decide +kernel
theorem dX1_add_17 : decode cX1_add 17 = .ok (.invokevirtual 46, 3) := by decide +kernel
theorem dX1_add_20 : decode cX1_add 20 = .ok (.return_, 1) := by decide +kernel
set_option maxRecDepth 20000 in
theorem ggX1_subtract_X1_take : GoodIn wsX1_subtract wsX1_take := goodIn_r _ [6, 7, 8, 9, 5, 10, 11, 12, 13, 14, 1, 15, 16, 17, 18, 19, 20, 21, 22, 23, 24, 25, 26, 27, 49, 50, 51] (by decide +kernel) (by decide +kernel)
set_option maxRecDepth 20000 in
theorem gX1_subtract_X1_take : GoodIn wsX1_subtract (wsV RX1 55 RX1 yX1_take wsX1_take) := goodIn_app (goodIn_of _ (by decide +kernel)) ggX1_subtract_X1_take
set_option maxRecDepth 20000 in
theorem ggX1_subtract_X1_sum : GoodIn wsX1_subtract wsX1_sum := goodIn_r _ [31, 1, 32, 15, 16, 17, 5, 18, 19, 20, 21, 22, 23, 33, 34, 35, 36, 37, 38, 39, 40, 49, 50, 51] (by decide +kernel) (by decide +kernel)
set_option maxRecDepth 20000 in
theorem gX1_subtract_X1_sum : GoodIn wsX1_subtract (wsV RX1 59 RX1 yX1_sum wsX1_sum) := goodIn_app (goodIn_of _ (by decide +kernel)) ggX1_subtract_X1_sum
set_option maxRecDepth 20000 in
theorem ggX1_subtract_X1_give : GoodIn wsX1_subtract wsX1_give := goodIn_r _ [44, 7, 1, 45, 46, 47, 5, 48, 15, 16, 17, 18, 19, 11, 12, 13, 14, 20, 21, 22, 23, 49, 50, 51] (by decide +kernel) (by decide +kernel)
set_option maxRecDepth 20000 in
theorem gX1_subtract_X1_give : GoodIn wsX1_subtract (wsV RX1 46 RX1 yX1_give wsX1_give) := goodIn_app (goodIn_of _ (by decide +kernel)) ggX1_subtract_X1_give
theorem dX1_subtract_0 : decode cX1_subtract 0 = .ok (.aload_n 0, 1) := by decide +kernel
theorem dX1_subtract_1 : decode cX1_subtract 1 = .ok (.iload_n 1, 1) := by decide +kernel
theorem dX1_subtract_2 : decode cX1_subtract 2 = .ok (.iload_n 2, 1) := by decide +kernel
theorem dX1_subtract_3 : decode cX1_subtract 3 = .ok (.iload_n 3, 1) := by decide +kernel
theorem dX1_subtract_4 : decode cX1_subtract 4 = .ok (.invokevirtual 55, 3) := by decide +kernel
theorem dX1_subtract_7 : decode cX1_subtract 7 = .ok (.ifCond .ne 4, 3) := by decide +kernel
theorem dX1_subtract_10 : decode cX1_subtract 10 = .ok (.return_, 1) := by decide +kernel
theorem dX1_subtract_11 : decode cX1_subtract 11 = .ok (.aload_n 0, 1) := by decide +kernel
theorem dX1_subtract_12 : decode cX1_subtract 12 = .ok (.getfield 7, 3) := by decide +kernel
theorem dX1_subtract_15 : decode cX1_subtract 15 = .ok (.bipush 15, 2) := by decide +kernel
theorem dX1_subtract_17 : decode cX1_subtract 17 = .ok (.aload_n 0, 1) := by decide +kernel
theorem dX1_subtract_18 : decode cX1_subtract 18 = .ok (.getfield 7, 3) := by decide +kernel
theorem dX1_subtract_21 : decode cX1_subtract 21 = .ok (.bipush 15, 2) := by decide +kernel
theorem dX1_subtract_23 : decode cX1_subtract 23 = .ok (.iaload, 1) := by decide +kernel
theorem dX1_subtract_24 : decode cX1_subtract 24 = .ok (.ineg, 1) := by decide +kernel
theorem dX1_subtract_25 : decode cX1_subtract 25 = .ok (.iastore, 1) := by decide +kernel
theorem dX1_subtract_26 : decode cX1_subtract 26 = .ok (.aload_n 0, 1) := by decide +kernel
theorem dX1_subtract_27 : decode cX1_subtract 27 = .ok (.invokevirtual 59, 3) := by decide +kernel
theorem dX1_subtract_30 : decode cX1_subtract 30 = .ok (.aload_n 0, 1) := by decide +kernel
theorem dX1_subtract_31 : decode cX1_subtract 31 = .ok (.iload_n 1, 1) := by decide +kernel
theorem dX1_subtract_32 : decode cX1_subtract 32 = .ok (.invokevirtual 46, 3) := by decide +kernel
theorem dX1_subtract_35 : decode cX1_subtract 35 = .ok (.return_, 1) := by decide +kernel
set_option maxRecDepth 20000 in
theorem ggX1_multiply_X1_take : GoodIn wsX1_multiply wsX1_take := goodIn_r _ [7, 8, 9, 10, 6, 11, 12, 13, 14, 15, 2, 16, 17, 18, 19, 20, 21, 22, 23, 24, 25, 26, 27, 28, 37, 38, 39] (by decide +kernel) (by decide +kernel)
set_option maxRecDepth 20000 in
theorem gX1_multiply_X1_take : GoodIn wsX1_multiply (wsV RX1 55 RX1 yX1_take wsX1_take) := goodIn_app (goodIn_of _ (by decide +kernel)) ggX1_multiply_X1_take
set_option maxRecDepth 20000 in
theorem ggX1_multiply_X1_length : GoodIn wsX1_multiply wsX1_length := goodIn_r _ [32, 16, 17, 18, 6, 19, 20, 37, 38, 39] (by decide +kernel) (by decide +kernel)
set_option maxRecDepth 20000 in
theorem gX1_multiply_X1_length : GoodIn wsX1_multiply (wsV RX1 29 RX1 yX1_length wsX1_length) := goodIn_app (goodIn_of _ (by decide +kernel)) ggX1_multiply_X1_length
set_option maxRecDepth 20000 in
theorem ggX1_multiply_X1_get : GoodIn wsX1_multiply wsX1_get := goodIn_r _ [19, 20, 37, 38, 39] (by decide +kernel) (by decide +kernel)
set_option maxRecDepth 20000 in
theorem gX1_multiply_X1_get : GoodIn wsX1_multiply (wsV RX1 25 RX1 yX1_get wsX1_get) := goodIn_app (goodIn_of _ (by decide +kernel)) ggX1_multiply_X1_get
set_option maxRecDepth 20000 in
theorem ggX1_multiply_X1_put : GoodIn wsX1_multiply wsX1_put := goodIn_r _ [24, 20, 37, 38, 39] (by decide +kernel) (by decide +kernel)
set_option maxRecDepth 20000 in
theorem gX1_multiply_X1_put : GoodIn wsX1_multiply (wsV RX1 21 RX1 yX1_put wsX1_put) := goodIn_app (goodIn_of _ (by decide +kernel)) ggX1_multiply_X1_put
set_option maxRecDepth 20000 in
theorem ggX1_multiply_X1_give : GoodIn wsX1_multiply wsX1_give := goodIn_r _ [36, 8, 2, 29, 30, 31, 6, 32, 16, 17, 18, 19, 20, 12, 13, 14, 15, 21, 22, 23, 24, 37, 38, 39] (by decide +kernel) (by decide +kernel)
set_option maxRecDepth 20000 in
theorem gX1_multiply_X1_give : GoodIn wsX1_multiply (wsV RX1 46 RX1 yX1_give wsX1_give) := goodIn_app (goodIn_of _ (by decide +kernel)) ggX1_multiply_X1_give
theorem dX1_multiply_0 : decode cX1_multiply 0 = .ok (.aload_n 0, 1) := by decide +kernel
theorem dX1_multiply_1 : decode cX1_multiply 1 = .ok (.iload_n 1, 1) := by decide +kernel
theorem dX1_multiply_2 : decode cX1_multiply 2 = .ok (.iload_n 2, 1) := by decide +kernel
theorem dX1_multiply_3 : decode cX1_multiply 3 = .ok (.iload_n 3, 1) := by decide +kernel
theorem dX1_multiply_4 : decode cX1_multiply 4 = .ok (.invokevirtual 55, 3) := by decide +kernel
theorem dX1_multiply_7 : decode cX1_multiply 7 = .ok (.ifCond .ne 4, 3) := by decide +kernel
theorem dX1_multiply_10 : decode cX1_multiply 10 = .ok (.return_, 1) := by decide +kernel
theorem dX1_multiply_11 : decode cX1_multiply 11 = .ok (.aload_n 0, 1) := by decide +kernel
theorem dX1_multiply_12 : decode cX1_multiply 12 = .ok (.bipush 14, 2) := by decide +kernel
theorem dX1_multiply_14 : decode cX1_multiply 14 = .ok (.invokevirtual 29, 3) := by decide +kernel
theorem dX1_multiply_17 : decode cX1_multiply 17 = .ok (.istore 4, 2) := by decide +kernel
theorem dX1_multiply_19 : decode cX1_multiply 19 = .ok (.aload_n 0, 1) := by decide +kernel
theorem dX1_multiply_20 : decode cX1_multiply 20 = .ok (.bipush 15, 2) := by decide +kernel
theorem dX1_multiply_22 : decode cX1_multiply 22 = .ok (.invokevirtual 29, 3) := by decide +kernel
theorem dX1_multiply_25 : decode cX1_multiply 25 = .ok (.istore 5, 2) := by decide +kernel
theorem dX1_multiply_27 : decode cX1_multiply 27 = .ok (.lconst 0, 1) := by decide +kernel
theorem dX1_multiply_28 : decode cX1_multiply 28 = .ok (.lstore 6, 2) := by decide +kernel
theorem dX1_multiply_30 : decode cX1_multiply 30 = .ok (.iconst 0, 1) := by decide +kernel
theorem dX1_multiply_31 : decode cX1_multiply 31 = .ok (.istore 8, 2) := by decide +kernel
theorem dX1_multiply_33 : decode cX1_multiply 33 = .ok (.iload 8, 2) := by decide +kernel
theorem dX1_multiply_35 : decode cX1_multiply 35 = .ok (.iload 4, 2) := by decide +kernel
theorem dX1_multiply_37 : decode cX1_multiply 37 = .ok (.iload 5, 2) := by decide +kernel
theorem dX1_multiply_39 : decode cX1_multiply 39 = .ok (.iadd, 1) := by decide +kernel
theorem dX1_multiply_40 : decode cX1_multiply 40 = .ok (.if_icmp .ge 102, 3) := by decide +kernel
theorem dX1_multiply_43 : decode cX1_multiply 43 = .ok (.iload 8, 2) := by decide +kernel
theorem dX1_multiply_45 : decode cX1_multiply 45 = .ok (.iload 5, 2) := by decide +kernel
theorem dX1_multiply_47 : decode cX1_multiply 47 = .ok (.if_icmp .ge 7, 3) := by decide +kernel
theorem dX1_multiply_50 : decode cX1_multiply 50 = .ok (.iconst 0, 1) := by decide +kernel
theorem dX1_multiply_51 : decode cX1_multiply 51 = .ok (.goto 10, 3) := by decide +kernel
theorem dX1_multiply_54 : decode cX1_multiply 54 = .ok (.iload 8, 2) := by decide +kernel
theorem dX1_multiply_56 : decode cX1_multiply 56 = .ok (.iload 5, 2) := by decide +kernel
theorem dX1_multiply_58 : decode cX1_multiply 58 = .ok (.isub, 1) := by decide +kernel
theorem dX1_multiply_59 : decode cX1_multiply 59 = .ok (.iconst 1, 1) := by decide +kernel
theorem dX1_multiply_60 : decode cX1_multiply 60 = .ok (.iadd, 1) := by decide +kernel
theorem dX1_multiply_61 : decode cX1_multiply 61 = .ok (.istore 9, 2) := by decide +kernel
theorem dX1_multiply_63 : decode cX1_multiply 63 = .ok (.iload 9, 2) := by decide +kernel
theorem dX1_multiply_65 : decode cX1_multiply 65 = .ok (.istore 10, 2) := by decide +kernel
theorem dX1_multiply_67 : decode cX1_multiply 67 = .ok (.iload 10, 2) := by decide +kernel
theorem dX1_multiply_69 : decode cX1_multiply 69 = .ok (.iload 8, 2) := by decide +kernel
theorem dX1_multiply_71 : decode cX1_multiply 71 = .ok (.if_icmp .gt 43, 3) := by decide +kernel
theorem dX1_multiply_74 : decode cX1_multiply 74 = .ok (.iload 10, 2) := by decide +kernel
theorem dX1_multiply_76 : decode cX1_multiply 76 = .ok (.iload 4, 2) := by decide +kernel
theorem dX1_multiply_78 : decode cX1_multiply 78 = .ok (.if_icmp .ge 36, 3) := by decide +kernel
theorem dX1_multiply_81 : decode cX1_multiply 81 = .ok (.lload 6, 2) := by decide +kernel
theorem dX1_multiply_83 : decode cX1_multiply 83 = .ok (.aload_n 0, 1) := by decide +kernel
theorem dX1_multiply_84 : decode cX1_multiply 84 = .ok (.bipush 14, 2) := by decide +kernel
theorem dX1_multiply_86 : decode cX1_multiply 86 = .ok (.iload 10, 2) := by decide +kernel
theorem dX1_multiply_88 : decode cX1_multiply 88 = .ok (.invokevirtual 25, 3) := by decide +kernel
theorem dX1_multiply_91 : decode cX1_multiply 91 = .ok (.i2l, 1) := by decide +kernel
theorem dX1_multiply_92 : decode cX1_multiply 92 = .ok (.aload_n 0, 1) := by decide +kernel
theorem dX1_multiply_93 : decode cX1_multiply 93 = .ok (.bipush 15, 2) := by decide +kernel
theorem dX1_multiply_95 : decode cX1_multiply 95 = .ok (.iload 8, 2) := by decide +kernel
theorem dX1_multiply_97 : decode cX1_multiply 97 = .ok (.iload 10, 2) := by decide +kernel
theorem dX1_multiply_99 : decode cX1_multiply 99 = .ok (.isub, 1) := by decide +kernel
theorem dX1_multiply_100 : decode cX1_multiply 100 = .ok (.invokevirtual 25, 3) := by decide +kernel
theorem dX1_multiply_103 : decode cX1_multiply 103 = .ok (.i2l, 1) := by decide +kernel
theorem dX1_multiply_104 : decode cX1_multiply 104 = .ok (.lmul, 1) := by decide +kernel
theorem dX1_multiply_105 : decode cX1_multiply 105 = .ok (.ladd, 1) := by decide +kernel
theorem dX1_multiply_106 : decode cX1_multiply 106 = .ok (.lstore 6, 2) := by decide +kernel
theorem dX1_multiply_108 : decode cX1_multiply 108 = .ok (.iinc 10 1, 3) := by decide +kernel
theorem dX1_multiply_111 : decode cX1_multiply 111 = .ok (.goto (-44), 3) := by decide +kernel
theorem dX1_multiply_114 : decode cX1_multiply 114 = .ok (.aload_n 0, 1) := by decide +kernel
theorem dX1_multiply_115 : decode cX1_multiply 115 = .ok (.bipush 12, 2) := by decide +kernel
theorem dX1_multiply_117 : decode cX1_multiply 117 = .ok (.iload 8, 2) := by decide +kernel
theorem dX1_multiply_119 : decode cX1_multiply 119 = .ok (.lload 6, 2) := by decide +kernel
theorem dX1_multiply_121 : decode cX1_multiply 121 = .ok (.ldc2_w 62, 3) := by decide +kernel
theorem dX1_multiply_124 : decode cX1_multiply 124 = .ok (.land, 1) := by decide +kernel
theorem dX1_multiply_125 : decode cX1_multiply 125 = .ok (.l2i, 1) := by decide +kernel
theorem dX1_multiply_126 : decode cX1_multiply 126 = .ok (.invokevirtual 21, 3) := by decide +kernel
theorem dX1_multiply_129 : decode cX1_multiply 129 = .ok (.lload 6, 2) := by decide +kernel
theorem dX1_multiply_131 : decode cX1_multiply 131 = .ok (.bipush 16, 2) := by decide +kernel
theorem dX1_multiply_133 : decode cX1_multiply 133 = .ok (.lshr, 1) := by decide +kernel
theorem dX1_multiply_134 : decode cX1_multiply 134 = .ok (.lstore 6, 2) := by decide +kernel
theorem dX1_multiply_136 : decode cX1_multiply 136 = .ok (.iinc 8 1, 3) := by decide +kernel
theorem dX1_multiply_139 : decode cX1_multiply 139 = .ok (.goto (-106), 3) := by decide +kernel
theorem dX1_multiply_142 : decode cX1_multiply 142 = .ok (.aload_n 0, 1) := by decide +kernel
theorem dX1_multiply_143 : decode cX1_multiply 143 = .ok (.getfield 7, 3) := by decide +kernel
theorem dX1_multiply_146 : decode cX1_multiply 146 = .ok (.bipush 12, 2) := by decide +kernel
theorem dX1_multiply_148 : decode cX1_multiply 148 = .ok (.aload_n 0, 1) := by decide +kernel
theorem dX1_multiply_149 : decode cX1_multiply 149 = .ok (.getfield 7, 3) := by decide +kernel
theorem dX1_multiply_152 : decode cX1_multiply 152 = .ok (.bipush 14, 2) := by decide +kernel
theorem dX1_multiply_154 : decode cX1_multiply 154 = .ok (.iaload, 1) := by decide +kernel
theorem dX1_multiply_155 : decode cX1_multiply 155 = .ok (.aload_n 0, 1) := by decide +kernel
theorem dX1_multiply_156 : decode cX1_multiply 156 = .ok (.getfield 7, 3) := by decide +kernel
theorem dX1_multiply_159 : decode cX1_multiply 159 = .ok (.bipush 15, 2) := by decide +kernel
theorem dX1_multiply_161 : decode cX1_multiply 161 = .ok (.iaload, 1) := by decide +kernel
theorem dX1_multiply_162 : decode cX1_multiply 162 = .ok (.imul, 1) := by decide +kernel
theorem dX1_multiply_163 : decode cX1_multiply 163 = .ok (.iastore, 1) := by decide +kernel
theorem dX1_multiply_164 : decode cX1_multiply 164 = .ok (.aload_n 0, 1) := by decide +kernel
theorem dX1_multiply_165 : decode cX1_multiply 165 = .ok (.iload_n 1, 1) := by decide +kernel
theorem dX1_multiply_166 : decode cX1_multiply 166 = .ok (.invokevirtual 46, 3) := by decide +kernel
theorem dX1_multiply_169 : decode cX1_multiply 169 = .ok (.return_, 1) := by decide +kernel
set_option maxRecDepth 20000 in
theorem ggX1_shift_X1_get : GoodIn wsX1_shift wsX1_get := goodIn_r _ [6, 7, 12, 13, 14] (by decide +kernel) (by decide +kernel)
set_option maxRecDepth 20000 in
theorem gX1_shift_X1_get : GoodIn wsX1_shift (wsV RX1 25 RX1 yX1_get wsX1_get) := goodIn_app (goodIn_of _ (by decide +kernel)) ggX1_shift_X1_get
set_option maxRecDepth 20000 in
theorem ggX1_shift_X1_put : GoodIn wsX1_shift wsX1_put := goodIn_r _ [11, 7, 12, 13, 14] (by decide +kernel) (by decide +kernel)
set_option maxRecDepth 20000 in
theorem gX1_shift_X1_put : GoodIn wsX1_shift (wsV RX1 21 RX1 yX1_put wsX1_put) := goodIn_app (goodIn_of _ (by decide +kernel)) ggX1_shift_X1_put
theorem dX1_shift_0 : decode cX1_shift 0 = .ok (.iload_n 3, 1) := by decide +kernel
theorem dX1_shift_1 : decode cX1_shift 1 = .ok (.istore 5, 2) := by decide +kernel
theorem dX1_shift_3 : decode cX1_shift 3 = .ok (.iconst 0, 1) := by decide +kernel
theorem dX1_shift_4 : decode cX1_shift 4 = .ok (.istore 6, 2) := by decide +kernel
theorem dX1_shift_6 : decode cX1_shift 6 = .ok (.iload 6, 2) := by decide +kernel
theorem dX1_shift_8 : decode cX1_shift 8 = .ok (.iload 4, 2) := by decide +kernel
theorem dX1_shift_10 : decode cX1_shift 10 = .ok (.if_icmp .ge 42, 3) := by decide +kernel
theorem dX1_shift_13 : decode cX1_shift 13 = .ok (.aload_n 0, 1) := by decide +kernel
theorem dX1_shift_14 : decode cX1_shift 14 = .ok (.iload_n 1, 1) := by decide +kernel
theorem dX1_shift_15 : decode cX1_shift 15 = .ok (.iload 6, 2) := by decide +kernel
theorem dX1_shift_17 : decode cX1_shift 17 = .ok (.invokevirtual 25, 3) := by decide +kernel
theorem dX1_shift_20 : decode cX1_shift 20 = .ok (.iload_n 2, 1) := by decide +kernel
theorem dX1_shift_21 : decode cX1_shift 21 = .ok (.ishl, 1) := by decide +kernel
theorem dX1_shift_22 : decode cX1_shift 22 = .ok (.iload 5, 2) := by decide +kernel
theorem dX1_shift_24 : decode cX1_shift 24 = .ok (.ior, 1) := by decide +kernel
theorem dX1_shift_25 : decode cX1_shift 25 = .ok (.istore 7, 2) := by decide +kernel
theorem dX1_shift_27 : decode cX1_shift 27 = .ok (.aload_n 0, 1) := by decide +kernel
theorem dX1_shift_28 : decode cX1_shift 28 = .ok (.iload_n 1, 1) := by decide +kernel
theorem dX1_shift_29 : decode cX1_shift 29 = .ok (.iload 6, 2) := by decide +kernel
theorem dX1_shift_31 : decode cX1_shift 31 = .ok (.iload 7, 2) := by decide +kernel
theorem dX1_shift_33 : decode cX1_shift 33 = .ok (.ldc 45, 2) := by decide +kernel
theorem dX1_shift_35 : decode cX1_shift 35 = .ok (.iand, 1) := by decide +kernel
theorem dX1_shift_36 : decode cX1_shift 36 = .ok (.invokevirtual 21, 3) := by decide +kernel
theorem dX1_shift_39 : decode cX1_shift 39 = .ok (.iload 7, 2) := by decide +kernel
theorem dX1_shift_41 : decode cX1_shift 41 = .ok (.bipush 16, 2) := by decide +kernel
theorem dX1_shift_43 : decode cX1_shift 43 = .ok (.ishr, 1) := by decide +kernel
theorem dX1_shift_44 : decode cX1_shift 44 = .ok (.istore 5, 2) := by decide +kernel
theorem dX1_shift_46 : decode cX1_shift 46 = .ok (.iinc 6 1, 3) := by decide +kernel
theorem dX1_shift_49 : decode cX1_shift 49 = .ok (.goto (-43), 3) := by decide +kernel
theorem dX1_shift_52 : decode cX1_shift 52 = .ok (.return_, 1) := by decide +kernel
set_option maxRecDepth 20000 in
theorem ggX1_divide_X1_isRegister : GoodIn wsX1_divide wsX1_isRegister := goodIn_r _ [6] (by decide +kernel) (by decide +kernel)
set_option maxRecDepth 20000 in
theorem gX1_divide_X1_isRegister : GoodIn wsX1_divide (va_wsS RX1 37 yX1_isRegister wsX1_isRegister) := goodIn_app (goodIn_of _ (by decide +kernel)) ggX1_divide_X1_isRegister
set_option maxRecDepth 20000 in
theorem ggX1_divide_X1_move : GoodIn wsX1_divide wsX1_move := goodIn_r _ [10, 2, 11, 12, 13, 5, 14, 15, 16, 17, 18, 19, 49, 50, 51] (by decide +kernel) (by decide +kernel)
set_option maxRecDepth 20000 in
theorem gX1_divide_X1_move : GoodIn wsX1_divide (wsV RX1 33 RX1 yX1_move wsX1_move) := goodIn_app (goodIn_of _ (by decide +kernel)) ggX1_divide_X1_move
set_option maxRecDepth 20000 in
theorem ggX1_divide_X1_clear : GoodIn wsX1_divide wsX1_clear := goodIn_r _ [23, 2, 16, 17, 18, 5, 19, 15, 49, 50, 51] (by decide +kernel) (by decide +kernel)
set_option maxRecDepth 20000 in
theorem gX1_divide_X1_clear : GoodIn wsX1_divide (wsV RX1 41 RX1 yX1_clear wsX1_clear) := goodIn_app (goodIn_of _ (by decide +kernel)) ggX1_divide_X1_clear
set_option maxRecDepth 20000 in
theorem ggX1_divide_X1_length : GoodIn wsX1_divide wsX1_length := goodIn_r _ [27, 11, 12, 13, 5, 14, 15, 49, 50, 51] (by decide +kernel) (by decide +kernel)
set_option maxRecDepth 20000 in
theorem gX1_divide_X1_length : GoodIn wsX1_divide (wsV RX1 29 RX1 yX1_length wsX1_length) := goodIn_app (goodIn_of _ (by decide +kernel)) ggX1_divide_X1_length
set_option maxRecDepth 20000 in
theorem ggX1_divide_X1_bitsOf : GoodIn wsX1_divide wsX1_bitsOf := goodIn_r _ [31, 24, 25, 26, 5, 27, 11, 12, 13, 14, 15, 49, 50, 51] (by decide +kernel) (by decide +kernel)
set_option maxRecDepth 20000 in
theorem gX1_divide_X1_bitsOf : GoodIn wsX1_divide (wsV RX1 64 RX1 yX1_bitsOf wsX1_bitsOf) := goodIn_app (goodIn_of _ (by decide +kernel)) ggX1_divide_X1_bitsOf
set_option maxRecDepth 20000 in
theorem ggX1_divide_X1_bit : GoodIn wsX1_divide wsX1_bit := goodIn_r _ [35, 11, 12, 13, 5, 14, 15, 49, 50, 51] (by decide +kernel) (by decide +kernel)
set_option maxRecDepth 20000 in
theorem gX1_divide_X1_bit : GoodIn wsX1_divide (wsV RX1 67 RX1 yX1_bit wsX1_bit) := goodIn_app (goodIn_of _ (by decide +kernel)) ggX1_divide_X1_bit
set_option maxRecDepth 20000 in
theorem ggX1_divide_X1_shift : GoodIn wsX1_divide wsX1_shift := goodIn_r _ [39, 40, 11, 12, 13, 5, 14, 15, 16, 17, 18, 19, 49, 50, 51] (by decide +kernel) (by decide +kernel)
set_option maxRecDepth 20000 in
theorem gX1_divide_X1_shift : GoodIn wsX1_divide (wsV RX1 70 RX1 yX1_shift wsX1_shift) := goodIn_app (goodIn_of _ (by decide +kernel)) ggX1_divide_X1_shift
set_option maxRecDepth 20000 in
theorem ggX1_divide_X1_isBelow : GoodIn wsX1_divide wsX1_isBelow := goodIn_r _ [44, 11, 12, 13, 5, 14, 15, 49, 50, 51] (by decide +kernel) (by decide +kernel)
set_option maxRecDepth 20000 in
theorem gX1_divide_X1_isBelow : GoodIn wsX1_divide (wsV RX1 74 RX1 yX1_isBelow wsX1_isBelow) := goodIn_app (goodIn_of _ (by decide +kernel)) ggX1_divide_X1_isBelow
set_option maxRecDepth 20000 in
theorem ggX1_divide_X1_lessBy : GoodIn wsX1_divide wsX1_lessBy := goodIn_r _ [48, 11, 12, 13, 5, 14, 15, 16, 17, 18, 19, 49, 50, 51] (by decide +kernel) (by decide +kernel)
set_option maxRecDepth 20000 in
theorem gX1_divide_X1_lessBy : GoodIn wsX1_divide (wsV RX1 77 RX1 yX1_lessBy wsX1_lessBy) := goodIn_app (goodIn_of _ (by decide +kernel)) ggX1_divide_X1_lessBy
set_option maxRecDepth 20000 in
theorem ggX1_divide_X1_get : GoodIn wsX1_divide wsX1_get := goodIn_r _ [14, 15, 49, 50, 51] (by decide +kernel) (by decide +kernel)
set_option maxRecDepth 20000 in
theorem gX1_divide_X1_get : GoodIn wsX1_divide (wsV RX1 25 RX1 yX1_get wsX1_get) := goodIn_app (goodIn_of _ (by decide +kernel)) ggX1_divide_X1_get
set_option maxRecDepth 20000 in
theorem ggX1_divide_X1_put : GoodIn wsX1_divide wsX1_put := goodIn_r _ [19, 15, 49, 50, 51] (by decide +kernel) (by decide +kernel)
set_option maxRecDepth 20000 in
theorem gX1_divide_X1_put : GoodIn wsX1_divide (wsV RX1 21 RX1 yX1_put wsX1_put) := goodIn_app (goodIn_of _ (by decide +kernel)) ggX1_divide_X1_put
theorem dX1_divide_0 : decode cX1_divide 0 = .ok (.aload_n 0, 1) := by decide +kernel
theorem dX1_divide_1 : decode cX1_divide 1 = .ok (.iload_n 1, 1) := by decide +kernel
theorem dX1_divide_2 : decode cX1_divide 2 = .ok (.invokestatic 37, 3) := by decide +kernel
theorem dX1_divide_5 : decode cX1_divide 5 = .ok (.ifCond .eq 29, 3) := by decide +kernel
theorem dX1_divide_8 : decode cX1_divide 8 = .ok (.iload_n 2, 1) := by decide +kernel
theorem dX1_divide_9 : decode cX1_divide 9 = .ok (.invokestatic 37, 3) := by decide +kernel
theorem dX1_divide_12 : decode cX1_divide 12 = .ok (.ifCond .eq 22, 3) := by decide +kernel
theorem dX1_divide_15 : decode cX1_divide 15 = .ok (.iload_n 3, 1) := by decide +kernel
theorem dX1_divide_16 : decode cX1_divide 16 = .ok (.invokestatic 37, 3) := by decide +kernel
theorem dX1_divide_19 : decode cX1_divide 19 = .ok (.ifCond .eq 15, 3) := by decide +kernel
theorem dX1_divide_22 : decode cX1_divide 22 = .ok (.iload 4, 2) := by decide +kernel
theorem dX1_divide_24 : decode cX1_divide 24 = .ok (.invokestatic 37, 3) := by decide +kernel
theorem dX1_divide_27 : decode cX1_divide 27 = .ok (.ifCond .eq 7, 3) := by decide +kernel
theorem dX1_divide_30 : decode cX1_divide 30 = .ok (.iconst 0, 1) := by decide +kernel
theorem dX1_divide_31 : decode cX1_divide 31 = .ok (.goto 4, 3) := by decide +kernel
theorem dX1_divide_34 : decode cX1_divide 34 = .ok (.iconst 1, 1) := by decide +kernel
theorem dX1_divide_35 : decode cX1_divide 35 = .ok (.putfield 17, 3) := by decide +kernel
theorem dX1_divide_38 : decode cX1_divide 38 = .ok (.aload_n 0, 1) := by decide +kernel
theorem dX1_divide_39 : decode cX1_divide 39 = .ok (.getfield 17, 3) := by decide +kernel
theorem dX1_divide_42 : decode cX1_divide 42 = .ok (.ifCond .le 4, 3) := by decide +kernel
theorem dX1_divide_45 : decode cX1_divide 45 = .ok (.return_, 1) := by decide +kernel
theorem dX1_divide_46 : decode cX1_divide 46 = .ok (.aload_n 0, 1) := by decide +kernel
theorem dX1_divide_47 : decode cX1_divide 47 = .ok (.iload_n 1, 1) := by decide +kernel
theorem dX1_divide_48 : decode cX1_divide 48 = .ok (.iload_n 2, 1) := by decide +kernel
theorem dX1_divide_49 : decode cX1_divide 49 = .ok (.if_icmp .eq 13, 3) := by decide +kernel
theorem dX1_divide_52 : decode cX1_divide 52 = .ok (.aload_n 0, 1) := by decide +kernel
theorem dX1_divide_53 : decode cX1_divide 53 = .ok (.getfield 7, 3) := by decide +kernel
theorem dX1_divide_56 : decode cX1_divide 56 = .ok (.iload 4, 2) := by decide +kernel
theorem dX1_divide_58 : decode cX1_divide 58 = .ok (.iaload, 1) := by decide +kernel
theorem dX1_divide_59 : decode cX1_divide 59 = .ok (.ifCond .ne 7, 3) := by decide +kernel
theorem dX1_divide_62 : decode cX1_divide 62 = .ok (.iconst 2, 1) := by decide +kernel
theorem dX1_divide_63 : decode cX1_divide 63 = .ok (.goto 4, 3) := by decide +kernel
theorem dX1_divide_66 : decode cX1_divide 66 = .ok (.iconst 0, 1) := by decide +kernel
theorem dX1_divide_67 : decode cX1_divide 67 = .ok (.putfield 17, 3) := by decide +kernel
theorem dX1_divide_70 : decode cX1_divide 70 = .ok (.aload_n 0, 1) := by decide +kernel
theorem dX1_divide_71 : decode cX1_divide 71 = .ok (.getfield 17, 3) := by decide +kernel
theorem dX1_divide_74 : decode cX1_divide 74 = .ok (.ifCond .le 4, 3) := by decide +kernel
theorem dX1_divide_77 : decode cX1_divide 77 = .ok (.return_, 1) := by decide +kernel
theorem dX1_divide_78 : decode cX1_divide 78 = .ok (.aload_n 0, 1) := by decide +kernel
theorem dX1_divide_79 : decode cX1_divide 79 = .ok (.bipush 14, 2) := by decide +kernel
theorem dX1_divide_81 : decode cX1_divide 81 = .ok (.iload_n 3, 1) := by decide +kernel
theorem dX1_divide_82 : decode cX1_divide 82 = .ok (.invokevirtual 33, 3) := by decide +kernel
theorem dX1_divide_85 : decode cX1_divide 85 = .ok (.aload_n 0, 1) := by decide +kernel
theorem dX1_divide_86 : decode cX1_divide 86 = .ok (.bipush 15, 2) := by decide +kernel
theorem dX1_divide_88 : decode cX1_divide 88 = .ok (.iload 4, 2) := by decide +kernel
theorem dX1_divide_90 : decode cX1_divide 90 = .ok (.invokevirtual 33, 3) := by decide +kernel
theorem dX1_divide_93 : decode cX1_divide 93 = .ok (.aload_n 0, 1) := by decide +kernel
theorem dX1_divide_94 : decode cX1_divide 94 = .ok (.bipush 12, 2) := by decide +kernel
theorem dX1_divide_96 : decode cX1_divide 96 = .ok (.invokevirtual 41, 3) := by decide +kernel
theorem dX1_divide_99 : decode cX1_divide 99 = .ok (.aload_n 0, 1) := by decide +kernel
theorem dX1_divide_100 : decode cX1_divide 100 = .ok (.bipush 13, 2) := by decide +kernel
theorem dX1_divide_102 : decode cX1_divide 102 = .ok (.invokevirtual 41, 3) := by decide +kernel
theorem dX1_divide_105 : decode cX1_divide 105 = .ok (.aload_n 0, 1) := by decide +kernel
theorem dX1_divide_106 : decode cX1_divide 106 = .ok (.bipush 15, 2) := by decide +kernel
theorem dX1_divide_108 : decode cX1_divide 108 = .ok (.invokevirtual 29, 3) := by decide +kernel
theorem dX1_divide_111 : decode cX1_divide 111 = .ok (.iconst 1, 1) := by decide +kernel
theorem dX1_divide_112 : decode cX1_divide 112 = .ok (.iadd, 1) := by decide +kernel
theorem dX1_divide_113 : decode cX1_divide 113 = .ok (.istore 5, 2) := by decide +kernel
theorem dX1_divide_115 : decode cX1_divide 115 = .ok (.aload_n 0, 1) := by decide +kernel
theorem dX1_divide_116 : decode cX1_divide 116 = .ok (.bipush 14, 2) := by decide +kernel
theorem dX1_divide_118 : decode cX1_divide 118 = .ok (.invokevirtual 64, 3) := by decide +kernel
theorem dX1_divide_121 : decode cX1_divide 121 = .ok (.iconst 1, 1) := by decide +kernel
theorem dX1_divide_122 : decode cX1_divide 122 = .ok (.isub, 1) := by decide +kernel
theorem dX1_divide_123 : decode cX1_divide 123 = .ok (.istore 6, 2) := by decide +kernel
theorem dX1_divide_125 : decode cX1_divide 125 = .ok (.iload 6, 2) := by decide +kernel
theorem dX1_divide_127 : decode cX1_divide 127 = .ok (.ifCond .lt 79, 3) := by decide +kernel
theorem dX1_divide_130 : decode cX1_divide 130 = .ok (.aload_n 0, 1) := by decide +kernel
theorem dX1_divide_131 : decode cX1_divide 131 = .ok (.bipush 13, 2) := by decide +kernel
theorem dX1_divide_133 : decode cX1_divide 133 = .ok (.iconst 1, 1) := by decide +kernel
theorem dX1_divide_134 : decode cX1_divide 134 = .ok (.aload_n 0, 1) := by decide +kernel
theorem dX1_divide_135 : decode cX1_divide 135 = .ok (.bipush 14, 2) := by decide +kernel
theorem dX1_divide_137 : decode cX1_divide 137 = .ok (.iload 6, 2) := by decide +kernel
theorem dX1_divide_139 : decode cX1_divide 139 = .ok (.invokevirtual 67, 3) := by decide +kernel
theorem dX1_divide_142 : decode cX1_divide 142 = .ok (.iload 5, 2) := by decide +kernel
theorem dX1_divide_144 : decode cX1_divide 144 = .ok (.invokevirtual 70, 3) := by decide +kernel
theorem dX1_divide_147 : decode cX1_divide 147 = .ok (.aload_n 0, 1) := by decide +kernel
theorem dX1_divide_148 : decode cX1_divide 148 = .ok (.bipush 13, 2) := by decide +kernel
theorem dX1_divide_150 : decode cX1_divide 150 = .ok (.bipush 15, 2) := by decide +kernel
theorem dX1_divide_152 : decode cX1_divide 152 = .ok (.iload 5, 2) := by decide +kernel
theorem dX1_divide_154 : decode cX1_divide 154 = .ok (.invokevirtual 74, 3) := by decide +kernel
theorem dX1_divide_157 : decode cX1_divide 157 = .ok (.ifCond .ne 43, 3) := by decide +kernel
theorem dX1_divide_160 : decode cX1_divide 160 = .ok (.aload_n 0, 1) := by decide +kernel
theorem dX1_divide_161 : decode cX1_divide 161 = .ok (.bipush 13, 2) := by decide +kernel
theorem dX1_divide_163 : decode cX1_divide 163 = .ok (.bipush 15, 2) := by decide +kernel
theorem dX1_divide_165 : decode cX1_divide 165 = .ok (.iload 5, 2) := by decide +kernel
theorem dX1_divide_167 : decode cX1_divide 167 = .ok (.invokevirtual 77, 3) := by decide +kernel
theorem dX1_divide_170 : decode cX1_divide 170 = .ok (.aload_n 0, 1) := by decide +kernel
theorem dX1_divide_171 : decode cX1_divide 171 = .ok (.bipush 12, 2) := by decide +kernel
theorem dX1_divide_173 : decode cX1_divide 173 = .ok (.iload 6, 2) := by decide +kernel
theorem dX1_divide_175 : decode cX1_divide 175 = .ok (.bipush 16, 2) := by decide +kernel
theorem dX1_divide_177 : decode cX1_divide 177 = .ok (.idiv, 1) := by decide +kernel
theorem dX1_divide_178 : decode cX1_divide 178 = .ok (.aload_n 0, 1) := by decide +kernel
theorem dX1_divide_179 : decode cX1_divide 179 = .ok (.bipush 12, 2) := by decide +kernel
theorem dX1_divide_181 : decode cX1_divide 181 = .ok (.iload 6, 2) := by decide +kernel
theorem dX1_divide_183 : decode cX1_divide 183 = .ok (.bipush 16, 2) := by decide +kernel
theorem dX1_divide_185 : decode cX1_divide 185 = .ok (.idiv, 1) := by decide +kernel
theorem dX1_divide_186 : decode cX1_divide 186 = .ok (.invokevirtual 25, 3) := by decide +kernel
theorem dX1_divide_189 : decode cX1_divide 189 = .ok (.iconst 1, 1) := by decide +kernel
theorem dX1_divide_190 : decode cX1_divide 190 = .ok (.iload 6, 2) := by decide +kernel
theorem dX1_divide_192 : decode cX1_divide 192 = .ok (.bipush 16, 2) := by decide +kernel
theorem dX1_divide_194 : decode cX1_divide 194 = .ok (.irem, 1) := by decide +kernel
theorem dX1_divide_195 : decode cX1_divide 195 = .ok (.ishl, 1) := by decide +kernel
theorem dX1_divide_196 : decode cX1_divide 196 = .ok (.ior, 1) := by decide +kernel
theorem dX1_divide_197 : decode cX1_divide 197 = .ok (.invokevirtual 21, 3) := by decide +kernel
theorem dX1_divide_200 : decode cX1_divide 200 = .ok (.iinc 6 (-1), 3) := by decide +kernel
theorem dX1_divide_203 : decode cX1_divide 203 = .ok (.goto (-78), 3) := by decide +kernel
theorem dX1_divide_206 : decode cX1_divide 206 = .ok (.aload_n 0, 1) := by decide +kernel
theorem dX1_divide_207 : decode cX1_divide 207 = .ok (.getfield 7, 3) := by decide +kernel
theorem dX1_divide_210 : decode cX1_divide 210 = .ok (.bipush 12, 2) := by decide +kernel
theorem dX1_divide_212 : decode cX1_divide 212 = .ok (.aload_n 0, 1) := by decide +kernel
theorem dX1_divide_213 : decode cX1_divide 213 = .ok (.bipush 12, 2) := by decide +kernel
theorem dX1_divide_215 : decode cX1_divide 215 = .ok (.invokevirtual 29, 3) := by decide +kernel
theorem dX1_divide_218 : decode cX1_divide 218 = .ok (.ifCond .ne 7, 3) := by decide +kernel
theorem dX1_divide_221 : decode cX1_divide 221 = .ok (.iconst 0, 1) := by decide +kernel
theorem dX1_divide_222 : decode cX1_divide 222 = .ok (.goto 18, 3) := by decide +kernel
theorem dX1_divide_225 : decode cX1_divide 225 = .ok (.aload_n 0, 1) := by decide +kernel
theorem dX1_divide_226 : decode cX1_divide 226 = .ok (.getfield 7, 3) := by decide +kernel
theorem dX1_divide_229 : decode cX1_divide 229 = .ok (.bipush 14, 2) := by decide +kernel
theorem dX1_divide_231 : decode cX1_divide 231 = .ok (.iaload, 1) := by decide +kernel
theorem dX1_divide_232 : decode cX1_divide 232 = .ok (.aload_n 0, 1) := by decide +kernel
theorem dX1_divide_233 : decode cX1_divide 233 = .ok (.getfield 7, 3) := by decide +kernel
theorem dX1_divide_236 : decode cX1_divide 236 = .ok (.bipush 15, 2) := by decide +kernel
theorem dX1_divide_238 : decode cX1_divide 238 = .ok (.iaload, 1) := by decide +kernel
theorem dX1_divide_239 : decode cX1_divide 239 = .ok (.imul, 1) := by decide +kernel
theorem dX1_divide_240 : decode cX1_divide 240 = .ok (.iastore, 1) := by decide +kernel
theorem dX1_divide_241 : decode cX1_divide 241 = .ok (.aload_n 0, 1) := by decide +kernel
theorem dX1_divide_242 : decode cX1_divide 242 = .ok (.getfield 7, 3) := by decide +kernel
theorem dX1_divide_245 : decode cX1_divide 245 = .ok (.bipush 13, 2) := by decide +kernel
theorem dX1_divide_247 : decode cX1_divide 247 = .ok (.aload_n 0, 1) := by decide +kernel
theorem dX1_divide_248 : decode cX1_divide 248 = .ok (.bipush 13, 2) := by decide +kernel
theorem dX1_divide_250 : decode cX1_divide 250 = .ok (.invokevirtual 29, 3) := by decide +kernel
theorem dX1_divide_253 : decode cX1_divide 253 = .ok (.ifCond .ne 7, 3) := by decide +kernel
theorem dX1_divide_256 : decode cX1_divide 256 = .ok (.iconst 0, 1) := by decide +kernel
theorem dX1_divide_257 : decode cX1_divide 257 = .ok (.goto 10, 3) := by decide +kernel
theorem dX1_divide_260 : decode cX1_divide 260 = .ok (.aload_n 0, 1) := by decide +kernel
theorem dX1_divide_261 : decode cX1_divide 261 = .ok (.getfield 7, 3) := by decide +kernel
theorem dX1_divide_264 : decode cX1_divide 264 = .ok (.bipush 14, 2) := by decide +kernel
theorem dX1_divide_266 : decode cX1_divide 266 = .ok (.iaload, 1) := by decide +kernel
theorem dX1_divide_267 : decode cX1_divide 267 = .ok (.iastore, 1) := by decide +kernel
theorem dX1_divide_268 : decode cX1_divide 268 = .ok (.aload_n 0, 1) := by decide +kernel
theorem dX1_divide_269 : decode cX1_divide 269 = .ok (.iload_n 1, 1) := by decide +kernel
theorem dX1_divide_270 : decode cX1_divide 270 = .ok (.bipush 12, 2) := by decide +kernel
theorem dX1_divide_272 : decode cX1_divide 272 = .ok (.invokevirtual 33, 3) := by decide +kernel
theorem dX1_divide_275 : decode cX1_divide 275 = .ok (.aload_n 0, 1) := by decide +kernel
theorem dX1_divide_276 : decode cX1_divide 276 = .ok (.iload_n 2, 1) := by decide +kernel
theorem dX1_divide_277 : decode cX1_divide 277 = .ok (.bipush 13, 2) := by decide +kernel
theorem dX1_divide_279 : decode cX1_divide 279 = .ok (.invokevirtual 33, 3) := by decide +kernel
theorem dX1_divide_282 : decode cX1_divide 282 = .ok (.return_, 1) := by decide +kernel
set_option maxRecDepth 20000 in
theorem ggX1_isBelow_X1_get : GoodIn wsX1_isBelow wsX1_get := goodIn_r _ [5, 6, 7, 8, 9] (by decide +kernel) (by decide +kernel)
set_option maxRecDepth 20000 in
theorem gX1_isBelow_X1_get : GoodIn wsX1_isBelow (wsV RX1 25 RX1 yX1_get wsX1_get) := goodIn_app (goodIn_of _ (by decide +kernel)) ggX1_isBelow_X1_get
theorem dX1_isBelow_0 : decode cX1_isBelow 0 = .ok (.iload_n 3, 1) := by decide +kernel
theorem dX1_isBelow_1 : decode cX1_isBelow 1 = .ok (.iconst 1, 1) := by decide +kernel
theorem dX1_isBelow_2 : decode cX1_isBelow 2 = .ok (.isub, 1) := by decide +kernel
theorem dX1_isBelow_3 : decode cX1_isBelow 3 = .ok (.istore 4, 2) := by decide +kernel
theorem dX1_isBelow_5 : decode cX1_isBelow 5 = .ok (.iload 4, 2) := by decide +kernel
theorem dX1_isBelow_7 : decode cX1_isBelow 7 = .ok (.ifCond .lt 49, 3) := by decide +kernel
theorem dX1_isBelow_10 : decode cX1_isBelow 10 = .ok (.aload_n 0, 1) := by decide +kernel
theorem dX1_isBelow_11 : decode cX1_isBelow 11 = .ok (.iload_n 1, 1) := by decide +kernel
theorem dX1_isBelow_12 : decode cX1_isBelow 12 = .ok (.iload 4, 2) := by decide +kernel
theorem dX1_isBelow_14 : decode cX1_isBelow 14 = .ok (.invokevirtual 25, 3) := by decide +kernel
theorem dX1_isBelow_17 : decode cX1_isBelow 17 = .ok (.aload_n 0, 1) := by decide +kernel
theorem dX1_isBelow_18 : decode cX1_isBelow 18 = .ok (.iload_n 2, 1) := by decide +kernel
theorem dX1_isBelow_19 : decode cX1_isBelow 19 = .ok (.iload 4, 2) := by decide +kernel
theorem dX1_isBelow_21 : decode cX1_isBelow 21 = .ok (.invokevirtual 25, 3) := by decide +kernel
theorem dX1_isBelow_24 : decode cX1_isBelow 24 = .ok (.if_icmp .eq 26, 3) := by decide +kernel
theorem dX1_isBelow_27 : decode cX1_isBelow 27 = .ok (.aload_n 0, 1) := by decide +kernel
theorem dX1_isBelow_28 : decode cX1_isBelow 28 = .ok (.iload_n 1, 1) := by decide +kernel
theorem dX1_isBelow_29 : decode cX1_isBelow 29 = .ok (.iload 4, 2) := by decide +kernel
theorem dX1_isBelow_31 : decode cX1_isBelow 31 = .ok (.invokevirtual 25, 3) := by decide +kernel
theorem dX1_isBelow_34 : decode cX1_isBelow 34 = .ok (.aload_n 0, 1) := by decide +kernel
theorem dX1_isBelow_35 : decode cX1_isBelow 35 = .ok (.iload_n 2, 1) := by decide +kernel
theorem dX1_isBelow_36 : decode cX1_isBelow 36 = .ok (.iload 4, 2) := by decide +kernel
theorem dX1_isBelow_38 : decode cX1_isBelow 38 = .ok (.invokevirtual 25, 3) := by decide +kernel
theorem dX1_isBelow_41 : decode cX1_isBelow 41 = .ok (.if_icmp .ge 7, 3) := by decide +kernel
theorem dX1_isBelow_44 : decode cX1_isBelow 44 = .ok (.iconst 1, 1) := by decide +kernel
theorem dX1_isBelow_45 : decode cX1_isBelow 45 = .ok (.goto 4, 3) := by decide +kernel
theorem dX1_isBelow_48 : decode cX1_isBelow 48 = .ok (.iconst 0, 1) := by decide +kernel
theorem dX1_isBelow_49 : decode cX1_isBelow 49 = .ok (.ireturn, 1) := by decide +kernel
theorem dX1_isBelow_50 : decode cX1_isBelow 50 = .ok (.iinc 4 (-1), 3) := by decide +kernel
theorem dX1_isBelow_53 : decode cX1_isBelow 53 = .ok (.goto (-48), 3) := by decide +kernel
theorem dX1_isBelow_56 : decode cX1_isBelow 56 = .ok (.iconst 0, 1) := by decide +kernel
theorem dX1_isBelow_57 : decode cX1_isBelow 57 = .ok (.ireturn, 1) := by decide +kernel
set_option maxRecDepth 20000 in
theorem ggX1_lessBy_X1_get : GoodIn wsX1_lessBy wsX1_get := goodIn_r _ [5, 6, 11, 12, 13] (by decide +kernel) (by decide +kernel)
set_option maxRecDepth 20000 in
theorem gX1_lessBy_X1_get : GoodIn wsX1_lessBy (wsV RX1 25 RX1 yX1_get wsX1_get) := goodIn_app (goodIn_of _ (by decide +kernel)) ggX1_lessBy_X1_get
set_option maxRecDepth 20000 in
theorem ggX1_lessBy_X1_put : GoodIn wsX1_lessBy wsX1_put := goodIn_r _ [10, 6, 11, 12, 13] (by decide +kernel) (by decide +kernel)
set_option maxRecDepth 20000 in
theorem gX1_lessBy_X1_put : GoodIn wsX1_lessBy (wsV RX1 21 RX1 yX1_put wsX1_put) := goodIn_app (goodIn_of _ (by decide +kernel)) ggX1_lessBy_X1_put
theorem dX1_lessBy_0 : decode cX1_lessBy 0 = .ok (.iconst 0, 1) := by decide +kernel
theorem dX1_lessBy_1 : decode cX1_lessBy 1 = .ok (.istore 4, 2) := by decide +kernel
theorem dX1_lessBy_3 : decode cX1_lessBy 3 = .ok (.iconst 0, 1) := by decide +kernel
theorem dX1_lessBy_4 : decode cX1_lessBy 4 = .ok (.istore 5, 2) := by decide +kernel
theorem dX1_lessBy_6 : decode cX1_lessBy 6 = .ok (.iload 5, 2) := by decide +kernel
theorem dX1_lessBy_8 : decode cX1_lessBy 8 = .ok (.iload_n 3, 1) := by decide +kernel
theorem dX1_lessBy_9 : decode cX1_lessBy 9 = .ok (.if_icmp .ge 56, 3) := by decide +kernel
theorem dX1_lessBy_12 : decode cX1_lessBy 12 = .ok (.aload_n 0, 1) := by decide +kernel
theorem dX1_lessBy_13 : decode cX1_lessBy 13 = .ok (.iload_n 1, 1) := by decide +kernel
theorem dX1_lessBy_14 : decode cX1_lessBy 14 = .ok (.iload 5, 2) := by decide +kernel
theorem dX1_lessBy_16 : decode cX1_lessBy 16 = .ok (.invokevirtual 25, 3) := by decide +kernel
theorem dX1_lessBy_19 : decode cX1_lessBy 19 = .ok (.aload_n 0, 1) := by decide +kernel
theorem dX1_lessBy_20 : decode cX1_lessBy 20 = .ok (.iload_n 2, 1) := by decide +kernel
theorem dX1_lessBy_21 : decode cX1_lessBy 21 = .ok (.iload 5, 2) := by decide +kernel
theorem dX1_lessBy_23 : decode cX1_lessBy 23 = .ok (.invokevirtual 25, 3) := by decide +kernel
theorem dX1_lessBy_26 : decode cX1_lessBy 26 = .ok (.isub, 1) := by decide +kernel
theorem dX1_lessBy_27 : decode cX1_lessBy 27 = .ok (.iload 4, 2) := by decide +kernel
theorem dX1_lessBy_29 : decode cX1_lessBy 29 = .ok (.isub, 1) := by decide +kernel
theorem dX1_lessBy_30 : decode cX1_lessBy 30 = .ok (.istore 6, 2) := by decide +kernel
theorem dX1_lessBy_32 : decode cX1_lessBy 32 = .ok (.iload 6, 2) := by decide +kernel
theorem dX1_lessBy_34 : decode cX1_lessBy 34 = .ok (.ifCond .ge 7, 3) := by decide +kernel
theorem dX1_lessBy_37 : decode cX1_lessBy 37 = .ok (.iconst 1, 1) := by decide +kernel
theorem dX1_lessBy_38 : decode cX1_lessBy 38 = .ok (.goto 4, 3) := by decide +kernel
theorem dX1_lessBy_41 : decode cX1_lessBy 41 = .ok (.iconst 0, 1) := by decide +kernel
theorem dX1_lessBy_42 : decode cX1_lessBy 42 = .ok (.istore 4, 2) := by decide +kernel
theorem dX1_lessBy_44 : decode cX1_lessBy 44 = .ok (.aload_n 0, 1) := by decide +kernel
theorem dX1_lessBy_45 : decode cX1_lessBy 45 = .ok (.iload_n 1, 1) := by decide +kernel
theorem dX1_lessBy_46 : decode cX1_lessBy 46 = .ok (.iload 5, 2) := by decide +kernel
theorem dX1_lessBy_48 : decode cX1_lessBy 48 = .ok (.iload 6, 2) := by decide +kernel
theorem dX1_lessBy_50 : decode cX1_lessBy 50 = .ok (.iload 4, 2) := by decide +kernel
theorem dX1_lessBy_52 : decode cX1_lessBy 52 = .ok (.bipush 16, 2) := by decide +kernel
theorem dX1_lessBy_54 : decode cX1_lessBy 54 = .ok (.ishl, 1) := by decide +kernel
theorem dX1_lessBy_55 : decode cX1_lessBy 55 = .ok (.iadd, 1) := by decide +kernel
theorem dX1_lessBy_56 : decode cX1_lessBy 56 = .ok (.invokevirtual 21, 3) := by decide +kernel
theorem dX1_lessBy_59 : decode cX1_lessBy 59 = .ok (.iinc 5 1, 3) := by decide +kernel
theorem dX1_lessBy_62 : decode cX1_lessBy 62 = .ok (.goto (-56), 3) := by decide +kernel
theorem dX1_lessBy_65 : decode cX1_lessBy 65 = .ok (.return_, 1) := by decide +kernel
set_option maxRecDepth 20000 in
theorem ggX1_root_X1_isRegister : GoodIn wsX1_root wsX1_isRegister := goodIn_r _ [6] (by decide +kernel) (by decide +kernel)
set_option maxRecDepth 20000 in
theorem gX1_root_X1_isRegister : GoodIn wsX1_root (va_wsS RX1 37 yX1_isRegister wsX1_isRegister) := goodIn_app (goodIn_of _ (by decide +kernel)) ggX1_root_X1_isRegister
set_option maxRecDepth 20000 in
theorem ggX1_root_X1_move : GoodIn wsX1_root wsX1_move := goodIn_r _ [10, 2, 11, 12, 13, 5, 14, 15, 16, 17, 18, 19, 49, 50, 51] (by decide +kernel) (by decide +kernel)
set_option maxRecDepth 20000 in
theorem gX1_root_X1_move : GoodIn wsX1_root (wsV RX1 33 RX1 yX1_move wsX1_move) := goodIn_app (goodIn_of _ (by decide +kernel)) ggX1_root_X1_move
set_option maxRecDepth 20000 in
theorem ggX1_root_X1_clear : GoodIn wsX1_root wsX1_clear := goodIn_r _ [23, 2, 16, 17, 18, 5, 19, 15, 49, 50, 51] (by decide +kernel) (by decide +kernel)
set_option maxRecDepth 20000 in
theorem gX1_root_X1_clear : GoodIn wsX1_root (wsV RX1 41 RX1 yX1_clear wsX1_clear) := goodIn_app (goodIn_of _ (by decide +kernel)) ggX1_root_X1_clear
set_option maxRecDepth 20000 in
theorem ggX1_root_X1_length : GoodIn wsX1_root wsX1_length := goodIn_r _ [27, 11, 12, 13, 5, 14, 15, 49, 50, 51] (by decide +kernel) (by decide +kernel)
set_option maxRecDepth 20000 in
theorem gX1_root_X1_length : GoodIn wsX1_root (wsV RX1 29 RX1 yX1_length wsX1_length) := goodIn_app (goodIn_of _ (by decide +kernel)) ggX1_root_X1_length
set_option maxRecDepth 20000 in
theorem ggX1_root_X1_bitsOf : GoodIn wsX1_root wsX1_bitsOf := goodIn_r _ [31, 24, 25, 26, 5, 27, 11, 12, 13, 14, 15, 49, 50, 51] (by decide +kernel) (by decide +kernel)
set_option maxRecDepth 20000 in
theorem gX1_root_X1_bitsOf : GoodIn wsX1_root (wsV RX1 64 RX1 yX1_bitsOf wsX1_bitsOf) := goodIn_app (goodIn_of _ (by decide +kernel)) ggX1_root_X1_bitsOf
set_option maxRecDepth 20000 in
theorem ggX1_root_X1_bit : GoodIn wsX1_root wsX1_bit := goodIn_r _ [35, 11, 12, 13, 5, 14, 15, 49, 50, 51] (by decide +kernel) (by decide +kernel)
set_option maxRecDepth 20000 in
theorem gX1_root_X1_bit : GoodIn wsX1_root (wsV RX1 67 RX1 yX1_bit wsX1_bit) := goodIn_app (goodIn_of _ (by decide +kernel)) ggX1_root_X1_bit
set_option maxRecDepth 20000 in
theorem ggX1_root_X1_shift : GoodIn wsX1_root wsX1_shift := goodIn_r _ [39, 40, 11, 12, 13, 5, 14, 15, 16, 17, 18, 19, 49, 50, 51] (by decide +kernel) (by decide +kernel)
set_option maxRecDepth 20000 in
theorem gX1_root_X1_shift : GoodIn wsX1_root (wsV RX1 70 RX1 yX1_shift wsX1_shift) := goodIn_app (goodIn_of _ (by decide +kernel)) ggX1_root_X1_shift
set_option maxRecDepth 20000 in
theorem ggX1_root_X1_get : GoodIn wsX1_root wsX1_get := goodIn_r _ [14, 15, 49, 50, 51] (by decide +kernel) (by decide +kernel)
set_option maxRecDepth 20000 in
theorem gX1_root_X1_get : GoodIn wsX1_root (wsV RX1 25 RX1 yX1_get wsX1_get) := goodIn_app (goodIn_of _ (by decide +kernel)) ggX1_root_X1_get
set_option maxRecDepth 20000 in
theorem ggX1_root_X1_put : GoodIn wsX1_root wsX1_put := goodIn_r _ [19, 15, 49, 50, 51] (by decide +kernel) (by decide +kernel)
set_option maxRecDepth 20000 in
theorem gX1_root_X1_put : GoodIn wsX1_root (wsV RX1 21 RX1 yX1_put wsX1_put) := goodIn_app (goodIn_of _ (by decide +kernel)) ggX1_root_X1_put
set_option maxRecDepth 20000 in
theorem ggX1_root_X1_isBelow : GoodIn wsX1_root wsX1_isBelow := goodIn_r _ [44, 11, 12, 13, 5, 14, 15, 49, 50, 51] (by decide +kernel) (by decide +kernel)
set_option maxRecDepth 20000 in
theorem gX1_root_X1_isBelow : GoodIn wsX1_root (wsV RX1 74 RX1 yX1_isBelow wsX1_isBelow) := goodIn_app (goodIn_of _ (by decide +kernel)) ggX1_root_X1_isBelow
set_option maxRecDepth 20000 in
theorem ggX1_root_X1_lessBy : GoodIn wsX1_root wsX1_lessBy := goodIn_r _ [48, 11, 12, 13, 5, 14, 15, 16, 17, 18, 19, 49, 50, 51] (by decide +kernel) (by decide +kernel)
set_option maxRecDepth 20000 in
theorem gX1_root_X1_lessBy : GoodIn wsX1_root (wsV RX1 77 RX1 yX1_lessBy wsX1_lessBy) := goodIn_app (goodIn_of _ (by decide +kernel)) ggX1_root_X1_lessBy
theorem dX1_root_0 : decode cX1_root 0 = .ok (.aload_n 0, 1) := by decide +kernel
theorem dX1_root_1 : decode cX1_root 1 = .ok (.iload_n 1, 1) := by decide +kernel
theorem dX1_root_2 : decode cX1_root 2 = .ok (.invokestatic 37, 3) := by decide +kernel
theorem dX1_root_5 : decode cX1_root 5 = .ok (.ifCond .eq 14, 3) := by decide +kernel
theorem dX1_root_8 : decode cX1_root 8 = .ok (.iload_n 2, 1) := by decide +kernel
theorem dX1_root_9 : decode cX1_root 9 = .ok (.invokestatic 37, 3) := by decide +kernel
theorem dX1_root_12 : decode cX1_root 12 = .ok (.ifCond .eq 7, 3) := by decide +kernel
theorem dX1_root_15 : decode cX1_root 15 = .ok (.iconst 0, 1) := by decide +kernel
theorem dX1_root_16 : decode cX1_root 16 = .ok (.goto 4, 3) := by decide +kernel
theorem dX1_root_19 : decode cX1_root 19 = .ok (.iconst 1, 1) := by decide +kernel
theorem dX1_root_20 : decode cX1_root 20 = .ok (.putfield 17, 3) := by decide +kernel
theorem dX1_root_23 : decode cX1_root 23 = .ok (.aload_n 0, 1) := by decide +kernel
theorem dX1_root_24 : decode cX1_root 24 = .ok (.getfield 17, 3) := by decide +kernel
theorem dX1_root_27 : decode cX1_root 27 = .ok (.ifCond .le 4, 3) := by decide +kernel
theorem dX1_root_30 : decode cX1_root 30 = .ok (.return_, 1) := by decide +kernel
theorem dX1_root_31 : decode cX1_root 31 = .ok (.aload_n 0, 1) := by decide +kernel
theorem dX1_root_32 : decode cX1_root 32 = .ok (.getfield 7, 3) := by decide +kernel
theorem dX1_root_35 : decode cX1_root 35 = .ok (.iload_n 2, 1) := by decide +kernel
theorem dX1_root_36 : decode cX1_root 36 = .ok (.iaload, 1) := by decide +kernel
theorem dX1_root_37 : decode cX1_root 37 = .ok (.ifCond .ge 9, 3) := by decide +kernel
theorem dX1_root_40 : decode cX1_root 40 = .ok (.aload_n 0, 1) := by decide +kernel
theorem dX1_root_41 : decode cX1_root 41 = .ok (.iconst 2, 1) := by decide +kernel
theorem dX1_root_42 : decode cX1_root 42 = .ok (.putfield 17, 3) := by decide +kernel
theorem dX1_root_45 : decode cX1_root 45 = .ok (.return_, 1) := by decide +kernel
theorem dX1_root_46 : decode cX1_root 46 = .ok (.aload_n 0, 1) := by decide +kernel
theorem dX1_root_47 : decode cX1_root 47 = .ok (.bipush 14, 2) := by decide +kernel
theorem dX1_root_49 : decode cX1_root 49 = .ok (.iload_n 2, 1) := by decide +kernel
theorem dX1_root_50 : decode cX1_root 50 = .ok (.invokevirtual 33, 3) := by decide +kernel
theorem dX1_root_53 : decode cX1_root 53 = .ok (.aload_n 0, 1) := by decide +kernel
theorem dX1_root_54 : decode cX1_root 54 = .ok (.bipush 12, 2) := by decide +kernel
theorem dX1_root_56 : decode cX1_root 56 = .ok (.invokevirtual 41, 3) := by decide +kernel
theorem dX1_root_59 : decode cX1_root 59 = .ok (.aload_n 0, 1) := by decide +kernel
theorem dX1_root_60 : decode cX1_root 60 = .ok (.bipush 13, 2) := by decide +kernel
theorem dX1_root_62 : decode cX1_root 62 = .ok (.invokevirtual 41, 3) := by decide +kernel
theorem dX1_root_65 : decode cX1_root 65 = .ok (.aload_n 0, 1) := by decide +kernel
theorem dX1_root_66 : decode cX1_root 66 = .ok (.bipush 14, 2) := by decide +kernel
theorem dX1_root_68 : decode cX1_root 68 = .ok (.invokevirtual 29, 3) := by decide +kernel
theorem dX1_root_71 : decode cX1_root 71 = .ok (.iconst 2, 1) := by decide +kernel
theorem dX1_root_72 : decode cX1_root 72 = .ok (.idiv, 1) := by decide +kernel
theorem dX1_root_73 : decode cX1_root 73 = .ok (.iconst 3, 1) := by decide +kernel
theorem dX1_root_74 : decode cX1_root 74 = .ok (.iadd, 1) := by decide +kernel
theorem dX1_root_75 : decode cX1_root 75 = .ok (.istore_n 3, 1) := by decide +kernel
theorem dX1_root_76 : decode cX1_root 76 = .ok (.aload_n 0, 1) := by decide +kernel
theorem dX1_root_77 : decode cX1_root 77 = .ok (.bipush 14, 2) := by decide +kernel
theorem dX1_root_79 : decode cX1_root 79 = .ok (.invokevirtual 64, 3) := by decide +kernel
theorem dX1_root_82 : decode cX1_root 82 = .ok (.iconst 1, 1) := by decide +kernel
theorem dX1_root_83 : decode cX1_root 83 = .ok (.iadd, 1) := by decide +kernel
theorem dX1_root_84 : decode cX1_root 84 = .ok (.iconst 2, 1) := by decide +kernel
theorem dX1_root_85 : decode cX1_root 85 = .ok (.idiv, 1) := by decide +kernel
theorem dX1_root_86 : decode cX1_root 86 = .ok (.iconst 1, 1) := by decide +kernel
theorem dX1_root_87 : decode cX1_root 87 = .ok (.isub, 1) := by decide +kernel
theorem dX1_root_88 : decode cX1_root 88 = .ok (.istore 4, 2) := by decide +kernel
theorem dX1_root_90 : decode cX1_root 90 = .ok (.iload 4, 2) := by decide +kernel
theorem dX1_root_92 : decode cX1_root 92 = .ok (.ifCond .lt 133, 3) := by decide +kernel
theorem dX1_root_95 : decode cX1_root 95 = .ok (.aload_n 0, 1) := by decide +kernel
theorem dX1_root_96 : decode cX1_root 96 = .ok (.bipush 13, 2) := by decide +kernel
theorem dX1_root_98 : decode cX1_root 98 = .ok (.iconst 2, 1) := by decide +kernel
theorem dX1_root_99 : decode cX1_root 99 = .ok (.iconst 2, 1) := by decide +kernel
theorem dX1_root_100 : decode cX1_root 100 = .ok (.aload_n 0, 1) := by decide +kernel
theorem dX1_root_101 : decode cX1_root 101 = .ok (.bipush 14, 2) := by decide +kernel
theorem dX1_root_103 : decode cX1_root 103 = .ok (.iconst 2, 1) := by decide +kernel
theorem dX1_root_104 : decode cX1_root 104 = .ok (.iload 4, 2) := by decide +kernel
theorem dX1_root_106 : decode cX1_root 106 = .ok (.imul, 1) := by decide +kernel
theorem dX1_root_107 : decode cX1_root 107 = .ok (.iconst 1, 1) := by decide +kernel
theorem dX1_root_108 : decode cX1_root 108 = .ok (.iadd, 1) := by decide +kernel
theorem dX1_root_109 : decode cX1_root 109 = .ok (.invokevirtual 67, 3) := by decide +kernel
theorem dX1_root_112 : decode cX1_root 112 = .ok (.imul, 1) := by decide +kernel
theorem dX1_root_113 : decode cX1_root 113 = .ok (.aload_n 0, 1) := by decide +kernel
theorem dX1_root_114 : decode cX1_root 114 = .ok (.bipush 14, 2) := by decide +kernel
theorem dX1_root_116 : decode cX1_root 116 = .ok (.iconst 2, 1) := by decide +kernel
theorem dX1_root_117 : decode cX1_root 117 = .ok (.iload 4, 2) := by decide +kernel
theorem dX1_root_119 : decode cX1_root 119 = .ok (.imul, 1) := by decide +kernel
theorem dX1_root_120 : decode cX1_root 120 = .ok (.invokevirtual 67, 3) := by decide +kernel
theorem dX1_root_123 : decode cX1_root 123 = .ok (.iadd, 1) := by decide +kernel
theorem dX1_root_124 : decode cX1_root 124 = .ok (.iload_n 3, 1) := by decide +kernel
theorem dX1_root_125 : decode cX1_root 125 = .ok (.invokevirtual 70, 3) := by decide +kernel
theorem dX1_root_128 : decode cX1_root 128 = .ok (.iconst 0, 1) := by decide +kernel
theorem dX1_root_129 : decode cX1_root 129 = .ok (.istore 5, 2) := by decide +kernel
theorem dX1_root_131 : decode cX1_root 131 = .ok (.iload 5, 2) := by decide +kernel
theorem dX1_root_133 : decode cX1_root 133 = .ok (.iload_n 3, 1) := by decide +kernel
theorem dX1_root_134 : decode cX1_root 134 = .ok (.if_icmp .ge 25, 3) := by decide +kernel
theorem dX1_root_137 : decode cX1_root 137 = .ok (.aload_n 0, 1) := by decide +kernel
theorem dX1_root_138 : decode cX1_root 138 = .ok (.bipush 15, 2) := by decide +kernel
theorem dX1_root_140 : decode cX1_root 140 = .ok (.iload 5, 2) := by decide +kernel
theorem dX1_root_142 : decode cX1_root 142 = .ok (.aload_n 0, 1) := by decide +kernel
theorem dX1_root_143 : decode cX1_root 143 = .ok (.bipush 12, 2) := by decide +kernel
theorem dX1_root_145 : decode cX1_root 145 = .ok (.iload 5, 2) := by decide +kernel
theorem dX1_root_147 : decode cX1_root 147 = .ok (.invokevirtual 25, 3) := by decide +kernel
theorem dX1_root_150 : decode cX1_root 150 = .ok (.invokevirtual 21, 3) := by decide +kernel
theorem dX1_root_153 : decode cX1_root 153 = .ok (.iinc 5 1, 3) := by decide +kernel
theorem dX1_root_156 : decode cX1_root 156 = .ok (.goto (-25), 3) := by decide +kernel
theorem dX1_root_159 : decode cX1_root 159 = .ok (.aload_n 0, 1) := by decide +kernel
theorem dX1_root_160 : decode cX1_root 160 = .ok (.bipush 15, 2) := by decide +kernel
theorem dX1_root_162 : decode cX1_root 162 = .ok (.iconst 2, 1) := by decide +kernel
theorem dX1_root_163 : decode cX1_root 163 = .ok (.iconst 1, 1) := by decide +kernel
theorem dX1_root_164 : decode cX1_root 164 = .ok (.iload_n 3, 1) := by decide +kernel
theorem dX1_root_165 : decode cX1_root 165 = .ok (.invokevirtual 70, 3) := by decide +kernel
theorem dX1_root_168 : decode cX1_root 168 = .ok (.aload_n 0, 1) := by decide +kernel
theorem dX1_root_169 : decode cX1_root 169 = .ok (.bipush 13, 2) := by decide +kernel
theorem dX1_root_171 : decode cX1_root 171 = .ok (.bipush 15, 2) := by decide +kernel
theorem dX1_root_173 : decode cX1_root 173 = .ok (.iload_n 3, 1) := by decide +kernel
theorem dX1_root_174 : decode cX1_root 174 = .ok (.invokevirtual 74, 3) := by decide +kernel
theorem dX1_root_177 : decode cX1_root 177 = .ok (.ifCond .ne 7, 3) := by decide +kernel
theorem dX1_root_180 : decode cX1_root 180 = .ok (.iconst 1, 1) := by decide +kernel
theorem dX1_root_181 : decode cX1_root 181 = .ok (.goto 4, 3) := by decide +kernel
theorem dX1_root_184 : decode cX1_root 184 = .ok (.iconst 0, 1) := by decide +kernel
theorem dX1_root_185 : decode cX1_root 185 = .ok (.istore 5, 2) := by decide +kernel
theorem dX1_root_187 : decode cX1_root 187 = .ok (.iload 5, 2) := by decide +kernel
theorem dX1_root_189 : decode cX1_root 189 = .ok (.ifCond .eq 12, 3) := by decide +kernel
theorem dX1_root_192 : decode cX1_root 192 = .ok (.aload_n 0, 1) := by decide +kernel
theorem dX1_root_193 : decode cX1_root 193 = .ok (.bipush 13, 2) := by decide +kernel
theorem dX1_root_195 : decode cX1_root 195 = .ok (.bipush 15, 2) := by decide +kernel
theorem dX1_root_197 : decode cX1_root 197 = .ok (.iload_n 3, 1) := by decide +kernel
theorem dX1_root_198 : decode cX1_root 198 = .ok (.invokevirtual 77, 3) := by decide +kernel
theorem dX1_root_201 : decode cX1_root 201 = .ok (.aload_n 0, 1) := by decide +kernel
theorem dX1_root_202 : decode cX1_root 202 = .ok (.bipush 12, 2) := by decide +kernel
theorem dX1_root_204 : decode cX1_root 204 = .ok (.iconst 1, 1) := by decide +kernel
theorem dX1_root_205 : decode cX1_root 205 = .ok (.iload 5, 2) := by decide +kernel
theorem dX1_root_207 : decode cX1_root 207 = .ok (.ifCond .eq 7, 3) := by decide +kernel
theorem dX1_root_210 : decode cX1_root 210 = .ok (.iconst 1, 1) := by decide +kernel
theorem dX1_root_211 : decode cX1_root 211 = .ok (.goto 4, 3) := by decide +kernel
theorem dX1_root_214 : decode cX1_root 214 = .ok (.iconst 0, 1) := by decide +kernel
theorem dX1_root_215 : decode cX1_root 215 = .ok (.iload_n 3, 1) := by decide +kernel
theorem dX1_root_216 : decode cX1_root 216 = .ok (.invokevirtual 70, 3) := by decide +kernel
theorem dX1_root_219 : decode cX1_root 219 = .ok (.iinc 4 (-1), 3) := by decide +kernel
theorem dX1_root_222 : decode cX1_root 222 = .ok (.goto (-132), 3) := by decide +kernel
theorem dX1_root_225 : decode cX1_root 225 = .ok (.aload_n 0, 1) := by decide +kernel
theorem dX1_root_226 : decode cX1_root 226 = .ok (.getfield 7, 3) := by decide +kernel
theorem dX1_root_229 : decode cX1_root 229 = .ok (.bipush 12, 2) := by decide +kernel
theorem dX1_root_231 : decode cX1_root 231 = .ok (.aload_n 0, 1) := by decide +kernel
theorem dX1_root_232 : decode cX1_root 232 = .ok (.bipush 12, 2) := by decide +kernel
theorem dX1_root_234 : decode cX1_root 234 = .ok (.invokevirtual 29, 3) := by decide +kernel
theorem dX1_root_237 : decode cX1_root 237 = .ok (.ifCond .ne 7, 3) := by decide +kernel
theorem dX1_root_240 : decode cX1_root 240 = .ok (.iconst 0, 1) := by decide +kernel
theorem dX1_root_241 : decode cX1_root 241 = .ok (.goto 4, 3) := by decide +kernel
theorem dX1_root_244 : decode cX1_root 244 = .ok (.iconst 1, 1) := by decide +kernel
theorem dX1_root_245 : decode cX1_root 245 = .ok (.iastore, 1) := by decide +kernel
theorem dX1_root_246 : decode cX1_root 246 = .ok (.aload_n 0, 1) := by decide +kernel
theorem dX1_root_247 : decode cX1_root 247 = .ok (.iload_n 1, 1) := by decide +kernel
theorem dX1_root_248 : decode cX1_root 248 = .ok (.bipush 12, 2) := by decide +kernel
theorem dX1_root_250 : decode cX1_root 250 = .ok (.invokevirtual 33, 3) := by decide +kernel
theorem dX1_root_253 : decode cX1_root 253 = .ok (.return_, 1) := by decide +kernel
set_option maxRecDepth 20000 in
theorem ggX1_compare_X1_isRegister : GoodIn wsX1_compare wsX1_isRegister := goodIn_r _ [6] (by decide +kernel) (by decide +kernel)
set_option maxRecDepth 20000 in
theorem gX1_compare_X1_isRegister : GoodIn wsX1_compare (va_wsS RX1 37 yX1_isRegister wsX1_isRegister) := goodIn_app (goodIn_of _ (by decide +kernel)) ggX1_compare_X1_isRegister
set_option maxRecDepth 20000 in
theorem ggX1_compare_X1_order : GoodIn wsX1_compare wsX1_order := goodIn_r _ [10, 11, 12, 13, 5, 14, 15, 16, 17, 18] (by decide +kernel) (by decide +kernel)
set_option maxRecDepth 20000 in
theorem gX1_compare_X1_order : GoodIn wsX1_compare (wsV RX1 49 RX1 yX1_order wsX1_order) := goodIn_app (goodIn_of _ (by decide +kernel)) ggX1_compare_X1_order
theorem dX1_compare_0 : decode cX1_compare 0 = .ok (.aload_n 0, 1) := by decide +kernel
theorem dX1_compare_1 : decode cX1_compare 1 = .ok (.iload_n 1, 1) := by decide +kernel
theorem dX1_compare_2 : decode cX1_compare 2 = .ok (.invokestatic 37, 3) := by decide +kernel
theorem dX1_compare_5 : decode cX1_compare 5 = .ok (.ifCond .eq 14, 3) := by decide +kernel
theorem dX1_compare_8 : decode cX1_compare 8 = .ok (.iload_n 2, 1) := by decide +kernel
theorem dX1_compare_9 : decode cX1_compare 9 = .ok (.invokestatic 37, 3) := by decide +kernel
theorem dX1_compare_12 : decode cX1_compare 12 = .ok (.ifCond .eq 7, 3) := by decide +kernel
theorem dX1_compare_15 : decode cX1_compare 15 = .ok (.iconst 0, 1) := by decide +kernel
theorem dX1_compare_16 : decode cX1_compare 16 = .ok (.goto 4, 3) := by decide +kernel
theorem dX1_compare_19 : decode cX1_compare 19 = .ok (.iconst 1, 1) := by decide +kernel
theorem dX1_compare_20 : decode cX1_compare 20 = .ok (.putfield 17, 3) := by decide +kernel
theorem dX1_compare_23 : decode cX1_compare 23 = .ok (.aload_n 0, 1) := by decide +kernel
theorem dX1_compare_24 : decode cX1_compare 24 = .ok (.getfield 17, 3) := by decide +kernel
theorem dX1_compare_27 : decode cX1_compare 27 = .ok (.ifCond .le 5, 3) := by decide +kernel
theorem dX1_compare_30 : decode cX1_compare 30 = .ok (.iconst 0, 1) := by decide +kernel
theorem dX1_compare_31 : decode cX1_compare 31 = .ok (.ireturn, 1) := by decide +kernel
theorem dX1_compare_32 : decode cX1_compare 32 = .ok (.aload_n 0, 1) := by decide +kernel
theorem dX1_compare_33 : decode cX1_compare 33 = .ok (.getfield 7, 3) := by decide +kernel
theorem dX1_compare_36 : decode cX1_compare 36 = .ok (.iload_n 1, 1) := by decide +kernel
theorem dX1_compare_37 : decode cX1_compare 37 = .ok (.iaload, 1) := by decide +kernel
theorem dX1_compare_38 : decode cX1_compare 38 = .ok (.aload_n 0, 1) := by decide +kernel
theorem dX1_compare_39 : decode cX1_compare 39 = .ok (.getfield 7, 3) := by decide +kernel
theorem dX1_compare_42 : decode cX1_compare 42 = .ok (.iload_n 2, 1) := by decide +kernel
theorem dX1_compare_43 : decode cX1_compare 43 = .ok (.iaload, 1) := by decide +kernel
theorem dX1_compare_44 : decode cX1_compare 44 = .ok (.if_icmp .eq 24, 3) := by decide +kernel
theorem dX1_compare_47 : decode cX1_compare 47 = .ok (.aload_n 0, 1) := by decide +kernel
theorem dX1_compare_48 : decode cX1_compare 48 = .ok (.getfield 7, 3) := by decide +kernel
theorem dX1_compare_51 : decode cX1_compare 51 = .ok (.iload_n 1, 1) := by decide +kernel
theorem dX1_compare_52 : decode cX1_compare 52 = .ok (.iaload, 1) := by decide +kernel
theorem dX1_compare_53 : decode cX1_compare 53 = .ok (.aload_n 0, 1) := by decide +kernel
theorem dX1_compare_54 : decode cX1_compare 54 = .ok (.getfield 7, 3) := by decide +kernel
theorem dX1_compare_57 : decode cX1_compare 57 = .ok (.iload_n 2, 1) := by decide +kernel
theorem dX1_compare_58 : decode cX1_compare 58 = .ok (.iaload, 1) := by decide +kernel
theorem dX1_compare_59 : decode cX1_compare 59 = .ok (.if_icmp .ge 7, 3) := by decide +kernel
theorem dX1_compare_62 : decode cX1_compare 62 = .ok (.iconst (-1), 1) := by decide +kernel
theorem dX1_compare_63 : decode cX1_compare 63 = .ok (.goto 4, 3) := by decide +kernel
theorem dX1_compare_66 : decode cX1_compare 66 = .ok (.iconst 1, 1) := by decide +kernel
theorem dX1_compare_67 : decode cX1_compare 67 = .ok (.ireturn, 1) := by decide +kernel
theorem dX1_compare_68 : decode cX1_compare 68 = .ok (.aload_n 0, 1) := by decide +kernel
theorem dX1_compare_69 : decode cX1_compare 69 = .ok (.getfield 7, 3) := by decide +kernel
theorem dX1_compare_72 : decode cX1_compare 72 = .ok (.iload_n 1, 1) := by decide +kernel
theorem dX1_compare_73 : decode cX1_compare 73 = .ok (.iaload, 1) := by decide +kernel
theorem dX1_compare_74 : decode cX1_compare 74 = .ok (.ifCond .ge 12, 3) := by decide +kernel
theorem dX1_compare_77 : decode cX1_compare 77 = .ok (.aload_n 0, 1) := by decide +kernel
theorem dX1_compare_78 : decode cX1_compare 78 = .ok (.iload_n 2, 1) := by decide +kernel
theorem dX1_compare_79 : decode cX1_compare 79 = .ok (.iload_n 1, 1) := by decide +kernel
theorem dX1_compare_80 : decode cX1_compare 80 = .ok (.invokevirtual 49, 3) := by decide +kernel
theorem dX1_compare_83 : decode cX1_compare 83 = .ok (.goto 9, 3) := by decide +kernel
theorem dX1_compare_86 : decode cX1_compare 86 = .ok (.aload_n 0, 1) := by decide +kernel
theorem dX1_compare_87 : decode cX1_compare 87 = .ok (.iload_n 1, 1) := by decide +kernel
theorem dX1_compare_88 : decode cX1_compare 88 = .ok (.iload_n 2, 1) := by decide +kernel
theorem dX1_compare_89 : decode cX1_compare 89 = .ok (.invokevirtual 49, 3) := by decide +kernel
theorem dX1_compare_92 : decode cX1_compare 92 = .ok (.ireturn, 1) := by decide +kernel
set_option maxRecDepth 20000 in
theorem ggX1_compareSizes_X1_isRegister : GoodIn wsX1_compareSizes wsX1_isRegister := goodIn_r _ [5] (by decide +kernel) (by decide +kernel)
set_option maxRecDepth 20000 in
theorem gX1_compareSizes_X1_isRegister : GoodIn wsX1_compareSizes (va_wsS RX1 37 yX1_isRegister wsX1_isRegister) := goodIn_app (goodIn_of _ (by decide +kernel)) ggX1_compareSizes_X1_isRegister
set_option maxRecDepth 20000 in
theorem ggX1_compareSizes_X1_order : GoodIn wsX1_compareSizes wsX1_order := goodIn_r _ [9, 10, 11, 12, 4, 13, 14, 15, 16, 17] (by decide +kernel) (by decide +kernel)
set_option maxRecDepth 20000 in
theorem gX1_compareSizes_X1_order : GoodIn wsX1_compareSizes (wsV RX1 49 RX1 yX1_order wsX1_order) := goodIn_app (goodIn_of _ (by decide +kernel)) ggX1_compareSizes_X1_order
theorem dX1_compareSizes_0 : decode cX1_compareSizes 0 = .ok (.aload_n 0, 1) := by decide +kernel
theorem dX1_compareSizes_1 : decode cX1_compareSizes 1 = .ok (.iload_n 1, 1) := by decide +kernel
theorem dX1_compareSizes_2 : decode cX1_compareSizes 2 = .ok (.invokestatic 37, 3) := by decide +kernel
theorem dX1_compareSizes_5 : decode cX1_compareSizes 5 = .ok (.ifCond .eq 14, 3) := by decide +kernel
theorem dX1_compareSizes_8 : decode cX1_compareSizes 8 = .ok (.iload_n 2, 1) := by decide +kernel
theorem dX1_compareSizes_9 : decode cX1_compareSizes 9 = .ok (.invokestatic 37, 3) := by decide +kernel
theorem dX1_compareSizes_12 : decode cX1_compareSizes 12 = .ok (.ifCond .eq 7, 3) := by decide +kernel
theorem dX1_compareSizes_15 : decode cX1_compareSizes 15 = .ok (.iconst 0, 1) := by decide +kernel
theorem dX1_compareSizes_16 : decode cX1_compareSizes 16 = .ok (.goto 4, 3) := by decide +kernel
theorem dX1_compareSizes_19 : decode cX1_compareSizes 19 = .ok (.iconst 1, 1) := by decide +kernel
theorem dX1_compareSizes_20 : decode cX1_compareSizes 20 = .ok (.putfield 17, 3) := by decide +kernel
theorem dX1_compareSizes_23 : decode cX1_compareSizes 23 = .ok (.aload_n 0, 1) := by decide +kernel
theorem dX1_compareSizes_24 : decode cX1_compareSizes 24 = .ok (.getfield 17, 3) := by decide +kernel
theorem dX1_compareSizes_27 : decode cX1_compareSizes 27 = .ok (.ifCond .le 7, 3) := by decide +kernel
theorem dX1_compareSizes_30 : decode cX1_compareSizes 30 = .ok (.iconst 0, 1) := by decide +kernel
theorem dX1_compareSizes_31 : decode cX1_compareSizes 31 = .ok (.goto 9, 3) := by decide +kernel
theorem dX1_compareSizes_34 : decode cX1_compareSizes 34 = .ok (.aload_n 0, 1) := by decide +kernel
theorem dX1_compareSizes_35 : decode cX1_compareSizes 35 = .ok (.iload_n 1, 1) := by decide +kernel
theorem dX1_compareSizes_36 : decode cX1_compareSizes 36 = .ok (.iload_n 2, 1) := by decide +kernel
theorem dX1_compareSizes_37 : decode cX1_compareSizes 37 = .ok (.invokevirtual 49, 3) := by decide +kernel
theorem dX1_compareSizes_40 : decode cX1_compareSizes 40 = .ok (.ireturn, 1) := by decide +kernel
set_option maxRecDepth 20000 in
theorem ggX1_sign_X1_isRegister : GoodIn wsX1_sign wsX1_isRegister := goodIn_r _ [6] (by decide +kernel) (by decide +kernel)
set_option maxRecDepth 20000 in
theorem gX1_sign_X1_isRegister : GoodIn wsX1_sign (va_wsS RX1 37 yX1_isRegister wsX1_isRegister) := goodIn_app (goodIn_of _ (by decide +kernel)) ggX1_sign_X1_isRegister
theorem dX1_sign_0 : decode cX1_sign 0 = .ok (.aload_n 0, 1) := by decide +kernel
theorem dX1_sign_1 : decode cX1_sign 1 = .ok (.iload_n 1, 1) := by decide +kernel
theorem dX1_sign_2 : decode cX1_sign 2 = .ok (.invokestatic 37, 3) := by decide +kernel
theorem dX1_sign_5 : decode cX1_sign 5 = .ok (.ifCond .eq 7, 3) := by decide +kernel
theorem dX1_sign_8 : decode cX1_sign 8 = .ok (.iconst 0, 1) := by decide +kernel
theorem dX1_sign_9 : decode cX1_sign 9 = .ok (.goto 4, 3) := by decide +kernel
theorem dX1_sign_12 : decode cX1_sign 12 = .ok (.iconst 1, 1) := by decide +kernel
theorem dX1_sign_13 : decode cX1_sign 13 = .ok (.putfield 17, 3) := by decide +kernel
theorem dX1_sign_16 : decode cX1_sign 16 = .ok (.aload_n 0, 1) := by decide +kernel
theorem dX1_sign_17 : decode cX1_sign 17 = .ok (.getfield 17, 3) := by decide +kernel
theorem dX1_sign_20 : decode cX1_sign 20 = .ok (.ifCond .le 7, 3) := by decide +kernel
theorem dX1_sign_23 : decode cX1_sign 23 = .ok (.iconst 0, 1) := by decide +kernel
theorem dX1_sign_24 : decode cX1_sign 24 = .ok (.goto 9, 3) := by decide +kernel
theorem dX1_sign_27 : decode cX1_sign 27 = .ok (.aload_n 0, 1) := by decide +kernel
theorem dX1_sign_28 : decode cX1_sign 28 = .ok (.getfield 7, 3) := by decide +kernel
theorem dX1_sign_31 : decode cX1_sign 31 = .ok (.iload_n 1, 1) := by decide +kernel
theorem dX1_sign_32 : decode cX1_sign 32 = .ok (.iaload, 1) := by decide +kernel
theorem dX1_sign_33 : decode cX1_sign 33 = .ok (.ireturn, 1) := by decide +kernel
set_option maxRecDepth 20000 in
theorem ggX1_bits_X1_isRegister : GoodIn wsX1_bits wsX1_isRegister := goodIn_r _ [5] (by decide +kernel) (by decide +kernel)
set_option maxRecDepth 20000 in
theorem gX1_bits_X1_isRegister : GoodIn wsX1_bits (va_wsS RX1 37 yX1_isRegister wsX1_isRegister) := goodIn_app (goodIn_of _ (by decide +kernel)) ggX1_bits_X1_isRegister
set_option maxRecDepth 20000 in
theorem ggX1_bits_X1_bitsOf : GoodIn wsX1_bits wsX1_bitsOf := goodIn_r _ [9, 10, 11, 12, 4, 13, 14, 15, 16, 17, 18, 19, 20, 21] (by decide +kernel) (by decide +kernel)
set_option maxRecDepth 20000 in
theorem gX1_bits_X1_bitsOf : GoodIn wsX1_bits (wsV RX1 64 RX1 yX1_bitsOf wsX1_bitsOf) := goodIn_app (goodIn_of _ (by decide +kernel)) ggX1_bits_X1_bitsOf
theorem dX1_bits_0 : decode cX1_bits 0 = .ok (.aload_n 0, 1) := by decide +kernel
theorem dX1_bits_1 : decode cX1_bits 1 = .ok (.iload_n 1, 1) := by decide +kernel
theorem dX1_bits_2 : decode cX1_bits 2 = .ok (.invokestatic 37, 3) := by decide +kernel
theorem dX1_bits_5 : decode cX1_bits 5 = .ok (.ifCond .eq 7, 3) := by decide +kernel
theorem dX1_bits_8 : decode cX1_bits 8 = .ok (.iconst 0, 1) := by decide +kernel
theorem dX1_bits_9 : decode cX1_bits 9 = .ok (.goto 4, 3) := by decide +kernel
theorem dX1_bits_12 : decode cX1_bits 12 = .ok (.iconst 1, 1) := by decide +kernel
theorem dX1_bits_13 : decode cX1_bits 13 = .ok (.putfield 17, 3) := by decide +kernel
theorem dX1_bits_16 : decode cX1_bits 16 = .ok (.aload_n 0, 1) := by decide +kernel
theorem dX1_bits_17 : decode cX1_bits 17 = .ok (.getfield 17, 3) := by decide +kernel
theorem dX1_bits_20 : decode cX1_bits 20 = .ok (.ifCond .le 7, 3) := by decide +kernel
theorem dX1_bits_23 : decode cX1_bits 23 = .ok (.iconst 0, 1) := by decide +kernel
theorem dX1_bits_24 : decode cX1_bits 24 = .ok (.goto 8, 3) := by decide +kernel
theorem dX1_bits_27 : decode cX1_bits 27 = .ok (.aload_n 0, 1) := by decide +kernel
theorem dX1_bits_28 : decode cX1_bits 28 = .ok (.iload_n 1, 1) := by decide +kernel
theorem dX1_bits_29 : decode cX1_bits 29 = .ok (.invokevirtual 64, 3) := by decide +kernel
theorem dX1_bits_32 : decode cX1_bits 32 = .ok (.ireturn, 1) := by decide +kernel
set_option maxRecDepth 20000 in
theorem ggX1_word_X1_isRegister : GoodIn wsX1_word wsX1_isRegister := goodIn_r _ [5] (by decide +kernel) (by decide +kernel)
set_option maxRecDepth 20000 in
theorem gX1_word_X1_isRegister : GoodIn wsX1_word (va_wsS RX1 37 yX1_isRegister wsX1_isRegister) := goodIn_app (goodIn_of _ (by decide +kernel)) ggX1_word_X1_isRegister
set_option maxRecDepth 20000 in
theorem ggX1_word_X1_get : GoodIn wsX1_word wsX1_get := goodIn_r _ [9, 10, 11, 12, 13] (by decide +kernel) (by decide +kernel)
set_option maxRecDepth 20000 in
theorem gX1_word_X1_get : GoodIn wsX1_word (wsV RX1 25 RX1 yX1_get wsX1_get) := goodIn_app (goodIn_of _ (by decide +kernel)) ggX1_word_X1_get
theorem dX1_word_0 : decode cX1_word 0 = .ok (.aload_n 0, 1) := by decide +kernel
theorem dX1_word_1 : decode cX1_word 1 = .ok (.iload_n 1, 1) := by decide +kernel
theorem dX1_word_2 : decode cX1_word 2 = .ok (.invokestatic 37, 3) := by decide +kernel
theorem dX1_word_5 : decode cX1_word 5 = .ok (.ifCond .eq 18, 3) := by decide +kernel
theorem dX1_word_8 : decode cX1_word 8 = .ok (.iload_n 2, 1) := by decide +kernel
theorem dX1_word_9 : decode cX1_word 9 = .ok (.ifCond .lt 14, 3) := by decide +kernel
theorem dX1_word_12 : decode cX1_word 12 = .ok (.iload_n 2, 1) := by decide +kernel
theorem dX1_word_13 : decode cX1_word 13 = .ok (.sipush 512, 3) := by decide +kernel
theorem dX1_word_16 : decode cX1_word 16 = .ok (.if_icmp .ge 7, 3) := by decide +kernel
theorem dX1_word_19 : decode cX1_word 19 = .ok (.iconst 0, 1) := by decide +kernel
theorem dX1_word_20 : decode cX1_word 20 = .ok (.goto 4, 3) := by decide +kernel
theorem dX1_word_23 : decode cX1_word 23 = .ok (.iconst 1, 1) := by decide +kernel
theorem dX1_word_24 : decode cX1_word 24 = .ok (.putfield 17, 3) := by decide +kernel
theorem dX1_word_27 : decode cX1_word 27 = .ok (.aload_n 0, 1) := by decide +kernel
theorem dX1_word_28 : decode cX1_word 28 = .ok (.getfield 17, 3) := by decide +kernel
theorem dX1_word_31 : decode cX1_word 31 = .ok (.ifCond .le 7, 3) := by decide +kernel
theorem dX1_word_34 : decode cX1_word 34 = .ok (.iconst 0, 1) := by decide +kernel
theorem dX1_word_35 : decode cX1_word 35 = .ok (.goto 25, 3) := by decide +kernel
theorem dX1_word_38 : decode cX1_word 38 = .ok (.aload_n 0, 1) := by decide +kernel
theorem dX1_word_39 : decode cX1_word 39 = .ok (.iload_n 1, 1) := by decide +kernel
theorem dX1_word_40 : decode cX1_word 40 = .ok (.iconst 2, 1) := by decide +kernel
theorem dX1_word_41 : decode cX1_word 41 = .ok (.iload_n 2, 1) := by decide +kernel
theorem dX1_word_42 : decode cX1_word 42 = .ok (.imul, 1) := by decide +kernel
theorem dX1_word_43 : decode cX1_word 43 = .ok (.invokevirtual 25, 3) := by decide +kernel
theorem dX1_word_46 : decode cX1_word 46 = .ok (.aload_n 0, 1) := by decide +kernel
theorem dX1_word_47 : decode cX1_word 47 = .ok (.iload_n 1, 1) := by decide +kernel
theorem dX1_word_48 : decode cX1_word 48 = .ok (.iconst 2, 1) := by decide +kernel
theorem dX1_word_49 : decode cX1_word 49 = .ok (.iload_n 2, 1) := by decide +kernel
theorem dX1_word_50 : decode cX1_word 50 = .ok (.imul, 1) := by decide +kernel
theorem dX1_word_51 : decode cX1_word 51 = .ok (.iconst 1, 1) := by decide +kernel
theorem dX1_word_52 : decode cX1_word 52 = .ok (.iadd, 1) := by decide +kernel
theorem dX1_word_53 : decode cX1_word 53 = .ok (.invokevirtual 25, 3) := by decide +kernel
theorem dX1_word_56 : decode cX1_word 56 = .ok (.bipush 16, 2) := by decide +kernel
theorem dX1_word_58 : decode cX1_word 58 = .ok (.ishl, 1) := by decide +kernel
theorem dX1_word_59 : decode cX1_word 59 = .ok (.ior, 1) := by decide +kernel
theorem dX1_word_60 : decode cX1_word 60 = .ok (.ireturn, 1) := by decide +kernel
set_option maxRecDepth 20000 in
theorem ggX1_residue_X1_isRegister : GoodIn wsX1_residue wsX1_isRegister := goodIn_r _ [7] (by decide +kernel) (by decide +kernel)
set_option maxRecDepth 20000 in
theorem gX1_residue_X1_isRegister : GoodIn wsX1_residue (va_wsS RX1 37 yX1_isRegister wsX1_isRegister) := goodIn_app (goodIn_of _ (by decide +kernel)) ggX1_residue_X1_isRegister
set_option maxRecDepth 20000 in
theorem ggX1_residue_X1_length : GoodIn wsX1_residue wsX1_length := goodIn_r _ [11, 12, 13, 14, 6, 15, 16, 17, 18, 19] (by decide +kernel) (by decide +kernel)
set_option maxRecDepth 20000 in
theorem gX1_residue_X1_length : GoodIn wsX1_residue (wsV RX1 29 RX1 yX1_length wsX1_length) := goodIn_app (goodIn_of _ (by decide +kernel)) ggX1_residue_X1_length
set_option maxRecDepth 20000 in
theorem ggX1_residue_X1_get : GoodIn wsX1_residue wsX1_get := goodIn_r _ [15, 16, 17, 18, 19] (by decide +kernel) (by decide +kernel)
set_option maxRecDepth 20000 in
theorem gX1_residue_X1_get : GoodIn wsX1_residue (wsV RX1 25 RX1 yX1_get wsX1_get) := goodIn_app (goodIn_of _ (by decide +kernel)) ggX1_residue_X1_get
theorem dX1_residue_0 : decode cX1_residue 0 = .ok (.aload_n 0, 1) := by decide +kernel
theorem dX1_residue_1 : decode cX1_residue 1 = .ok (.iload_n 1, 1) := by decide +kernel
theorem dX1_residue_2 : decode cX1_residue 2 = .ok (.invokestatic 37, 3) := by decide +kernel
theorem dX1_residue_5 : decode cX1_residue 5 = .ok (.ifCond .eq 7, 3) := by decide +kernel
theorem dX1_residue_8 : decode cX1_residue 8 = .ok (.iconst 0, 1) := by decide +kernel
theorem dX1_residue_9 : decode cX1_residue 9 = .ok (.goto 4, 3) := by decide +kernel
theorem dX1_residue_12 : decode cX1_residue 12 = .ok (.iconst 1, 1) := by decide +kernel
theorem dX1_residue_13 : decode cX1_residue 13 = .ok (.putfield 17, 3) := by decide +kernel
theorem dX1_residue_16 : decode cX1_residue 16 = .ok (.aload_n 0, 1) := by decide +kernel
theorem dX1_residue_17 : decode cX1_residue 17 = .ok (.getfield 17, 3) := by decide +kernel
theorem dX1_residue_20 : decode cX1_residue 20 = .ok (.ifCond .le 5, 3) := by decide +kernel
theorem dX1_residue_23 : decode cX1_residue 23 = .ok (.iconst 0, 1) := by decide +kernel
theorem dX1_residue_24 : decode cX1_residue 24 = .ok (.ireturn, 1) := by decide +kernel
theorem dX1_residue_25 : decode cX1_residue 25 = .ok (.iload_n 2, 1) := by decide +kernel
theorem dX1_residue_26 : decode cX1_residue 26 = .ok (.iconst 1, 1) := by decide +kernel
theorem dX1_residue_27 : decode cX1_residue 27 = .ok (.if_icmp .ge 10, 3) := by decide +kernel
theorem dX1_residue_30 : decode cX1_residue 30 = .ok (.aload_n 0, 1) := by decide +kernel
theorem dX1_residue_31 : decode cX1_residue 31 = .ok (.iconst 2, 1) := by decide +kernel
theorem dX1_residue_32 : decode cX1_residue 32 = .ok (.putfield 17, 3) := by decide +kernel
theorem dX1_residue_35 : decode cX1_residue 35 = .ok (.iconst 0, 1) := by decide +kernel
theorem dX1_residue_36 : decode cX1_residue 36 = .ok (.ireturn, 1) := by decide +kernel
theorem dX1_residue_37 : decode cX1_residue 37 = .ok (.lconst 0, 1) := by decide +kernel
theorem dX1_residue_38 : decode cX1_residue 38 = .ok (.lstore_n 3, 1) := by decide +kernel
theorem dX1_residue_39 : decode cX1_residue 39 = .ok (.aload_n 0, 1) := by decide +kernel
theorem dX1_residue_40 : decode cX1_residue 40 = .ok (.iload_n 1, 1) := by decide +kernel
theorem dX1_residue_41 : decode cX1_residue 41 = .ok (.invokevirtual 29, 3) := by decide +kernel
theorem dX1_residue_44 : decode cX1_residue 44 = .ok (.iconst 1, 1) := by decide +kernel
theorem dX1_residue_45 : decode cX1_residue 45 = .ok (.isub, 1) := by decide +kernel
theorem dX1_residue_46 : decode cX1_residue 46 = .ok (.istore 5, 2) := by decide +kernel
theorem dX1_residue_48 : decode cX1_residue 48 = .ok (.iload 5, 2) := by decide +kernel
theorem dX1_residue_50 : decode cX1_residue 50 = .ok (.ifCond .lt 27, 3) := by decide +kernel
theorem dX1_residue_53 : decode cX1_residue 53 = .ok (.lload_n 3, 1) := by decide +kernel
theorem dX1_residue_54 : decode cX1_residue 54 = .ok (.ldc2_w 80, 3) := by decide +kernel
theorem dX1_residue_57 : decode cX1_residue 57 = .ok (.lmul, 1) := by decide +kernel
theorem dX1_residue_58 : decode cX1_residue 58 = .ok (.aload_n 0, 1) := by decide +kernel
theorem dX1_residue_59 : decode cX1_residue 59 = .ok (.iload_n 1, 1) := by decide +kernel
theorem dX1_residue_60 : decode cX1_residue 60 = .ok (.iload 5, 2) := by decide +kernel
theorem dX1_residue_62 : decode cX1_residue 62 = .ok (.invokevirtual 25, 3) := by decide +kernel
theorem dX1_residue_65 : decode cX1_residue 65 = .ok (.i2l, 1) := by decide +kernel
theorem dX1_residue_66 : decode cX1_residue 66 = .ok (.ladd, 1) := by decide +kernel
theorem dX1_residue_67 : decode cX1_residue 67 = .ok (.iload_n 2, 1) := by decide +kernel
theorem dX1_residue_68 : decode cX1_residue 68 = .ok (.i2l, 1) := by decide +kernel
theorem dX1_residue_69 : decode cX1_residue 69 = .ok (.lrem, 1) := by decide +kernel
theorem dX1_residue_70 : decode cX1_residue 70 = .ok (.lstore_n 3, 1) := by decide +kernel
theorem dX1_residue_71 : decode cX1_residue 71 = .ok (.iinc 5 (-1), 3) := by decide +kernel
theorem dX1_residue_74 : decode cX1_residue 74 = .ok (.goto (-26), 3) := by decide +kernel
theorem dX1_residue_77 : decode cX1_residue 77 = .ok (.aload_n 0, 1) := by decide +kernel
theorem dX1_residue_78 : decode cX1_residue 78 = .ok (.getfield 7, 3) := by decide +kernel
theorem dX1_residue_81 : decode cX1_residue 81 = .ok (.iload_n 1, 1) := by decide +kernel
theorem dX1_residue_82 : decode cX1_residue 82 = .ok (.iaload, 1) := by decide +kernel
theorem dX1_residue_83 : decode cX1_residue 83 = .ok (.ifCond .ge 16, 3) := by decide +kernel
theorem dX1_residue_86 : decode cX1_residue 86 = .ok (.lload_n 3, 1) := by decide +kernel
theorem dX1_residue_87 : decode cX1_residue 87 = .ok (.lconst 0, 1) := by decide +kernel
theorem dX1_residue_88 : decode cX1_residue 88 = .ok (.lcmp, 1) := by decide +kernel
theorem dX1_residue_89 : decode cX1_residue 89 = .ok (.ifCond .le 10, 3) := by decide +kernel
theorem dX1_residue_92 : decode cX1_residue 92 = .ok (.iload_n 2, 1) := by decide +kernel
theorem dX1_residue_93 : decode cX1_residue 93 = .ok (.i2l, 1) := by decide +kernel
theorem dX1_residue_94 : decode cX1_residue 94 = .ok (.lload_n 3, 1) := by decide +kernel
theorem dX1_residue_95 : decode cX1_residue 95 = .ok (.lsub, 1) := by decide +kernel
theorem dX1_residue_96 : decode cX1_residue 96 = .ok (.goto 4, 3) := by decide +kernel
theorem dX1_residue_99 : decode cX1_residue 99 = .ok (.lload_n 3, 1) := by decide +kernel
theorem dX1_residue_100 : decode cX1_residue 100 = .ok (.l2i, 1) := by decide +kernel
theorem dX1_residue_101 : decode cX1_residue 101 = .ok (.ireturn, 1) := by decide +kernel
end
section
/-! numbers: ints and longs by whole numbers -/
def iZ (z : Int) : Int32 := Int32.ofInt z
def lZ (z : Int) : Int64 := Int64.ofInt z
theorem iZ_add (a b : Int) : iZ a + iZ b = iZ (a + b) := (Int32.ofInt_add a b).symm
theorem iZ_sub (a b : Int) : iZ a - iZ b = iZ (a - b) := (Int32.ofInt_sub a b).symm
theorem iZ_mul (a b : Int) : iZ a * iZ b = iZ (a * b) := (Int32.ofInt_mul a b).symm
theorem iZ_neg (a : Int) : - iZ a = iZ (-a) := (Int32.ofInt_neg a).symm
theorem lZ_add (a b : Int) : lZ a + lZ b = lZ (a + b) := (Int64.ofInt_add a b).symm
theorem lZ_sub (a b : Int) : lZ a - lZ b = lZ (a - b) := (Int64.ofInt_sub a b).symm
theorem lZ_mul (a b : Int) : lZ a * lZ b = lZ (a * b) := (Int64.ofInt_mul a b).symm
theorem lZ_neg (a : Int) : - lZ a = lZ (-a) := (Int64.ofInt_neg a).symm
theorem iZ_of (x : Int32) : iZ x.toInt = x := Int32.ofInt_toInt x
theorem lZ_of (x : Int64) : lZ x.toInt = x := Int64.ofInt_toInt x
abbrev i32 (z : Int) : Prop := -2147483648 ≤ z ∧ z < 2147483648
abbrev i64 (z : Int) : Prop := -9223372036854775808 ≤ z ∧ z < 9223372036854775808
theorem iZ_toInt {z : Int} (h : i32 z) : (iZ z).toInt = z := Int32.toInt_ofInt_of_le (by have := h.1; omega) (by have := h.2; omega)
theorem lZ_toInt {z : Int} (h : i64 z) : (lZ z).toInt = z := Int64.toInt_ofInt_of_le (by have := h.1; omega) (by have := h.2; omega)
theorem iZ_lt {a b : Int} (ha : i32 a) (hb : i32 b) : iZ a < iZ b ↔ a < b := by rw [Int32.lt_iff_toInt_lt, iZ_toInt ha, iZ_toInt hb]
theorem iZ_le {a b : Int} (ha : i32 a) (hb : i32 b) : iZ a ≤ iZ b ↔ a ≤ b := by rw [Int32.le_iff_toInt_le, iZ_toInt ha, iZ_toInt hb]
theorem iZ_eq {a b : Int} (ha : i32 a) (hb : i32 b) : iZ a = iZ b ↔ a = b := ⟨fun h => by rw [← iZ_toInt ha, ← iZ_toInt hb, h], fun h => by rw [h]⟩
theorem lZ_lt {a b : Int} (ha : i64 a) (hb : i64 b) : lZ a < lZ b ↔ a < b := by rw [Int64.lt_iff_toInt_lt, lZ_toInt ha, lZ_toInt hb]
theorem lZ_eq {a b : Int} (ha : i64 a) (hb : i64 b) : lZ a = lZ b ↔ a = b := ⟨fun h => by rw [← lZ_toInt ha, ← lZ_toInt hb, h], fun h => by rw [h]⟩
theorem iZ_clamp {z : Int} (h : 0 ≤ z ∧ z < 2147483648) : (iZ z).toNatClampNeg = z.toNat := by
  show (iZ z).toInt.toNat = _
  rw [iZ_toInt ⟨by have := h.1; omega, h.2⟩]
theorem iZ_in {z : Int} {n : Nat} (h : 0 ≤ z ∧ z < n) (hn : n < 2147483648) : vp_in (iZ z) n := by
  have h0 : iZ 0 = 0 := by decide
  intro q
  rcases q with q | q
  · rw [← h0, iZ_lt ⟨by omega, by omega⟩ ⟨by omega, by omega⟩] at q
    omega
  · rw [iZ_clamp ⟨h.1, by omega⟩] at q
    omega
theorem iZ_mod (z : Int) : iZ (z % 4294967296) = iZ z := Int32.toInt.inj (by rw [iZ, iZ, Int32.toInt_ofInt, Int32.toInt_ofInt]; exact Int.emod_bmod z _)
theorem lZ_mod (z : Int) : lZ (z % 18446744073709551616) = lZ z := Int64.toInt.inj (by rw [lZ, lZ, Int64.toInt_ofInt, Int64.toInt_ofInt]; exact Int.emod_bmod z _)
theorem i2lZ {z : Int} (h : i32 z) : (iZ z).toInt64 = lZ z := Int32.toInt64_ofInt (by have := h.1; exact this) (by have := h.2; show z ≤ 2147483647; omega)
theorem l2iZ (z : Int) : (lZ z).toInt32 = iZ z := Int64.toInt32_ofInt
theorem iZ_c (n : Int) : Int32.ofInt n = iZ n := rfl
/-- a value's bits as a number of 0 .. 2^32 - 1, of 0 .. 2^64 - 1 -/
theorem iZ_u (z : Int) : ((iZ z).toUInt32.toNat : Int) = z % 4294967296 := by
  have h : (iZ z).toUInt32.toNat = (z % 4294967296).toNat := by
    show (Int32.ofInt z).toBitVec.toNat = _
    rw [show (Int32.ofInt z).toBitVec = BitVec.ofInt 32 z from rfl, BitVec.toNat_ofInt]
    rfl
  rw [h]; omega
theorem lZ_u (z : Int) : ((lZ z).toUInt64.toNat : Int) = z % 18446744073709551616 := by
  have h : (lZ z).toUInt64.toNat = (z % 18446744073709551616).toNat := by
    show (Int64.ofInt z).toBitVec.toNat = _
    rw [show (Int64.ofInt z).toBitVec = BitVec.ofInt 64 z from rfl, BitVec.toNat_ofInt]
    rfl
  rw [h]; omega
theorem lZ_ext {x : Int64} {z : Int} (h : (x.toUInt64.toNat : Int) = z % 18446744073709551616) : x = lZ z := by
  have h2 := lZ_u z
  have h3 : x.toUInt64.toNat = (lZ z).toUInt64.toNat := by omega
  have h4 : x.toUInt64 = (lZ z).toUInt64 := UInt64.toNat.inj h3
  exact Int64.toBitVec.inj (congrArg UInt64.toBitVec h4)
theorem iZ_ext {x : Int32} {z : Int} (h : (x.toUInt32.toNat : Int) = z % 4294967296) : x = iZ z := by
  have h2 := iZ_u z
  have h3 : x.toUInt32.toNat = (iZ z).toUInt32.toNat := by omega
  have h4 : x.toUInt32 = (iZ z).toUInt32 := UInt32.toNat.inj h3
  exact Int32.toBitVec.inj (congrArg UInt32.toBitVec h4)
end
section
theorem lZ_natu {n : Nat} (h : n < 18446744073709551616) : (lZ n).toUInt64.toNat = n := by have := lZ_u n; omega
theorem iZ_natu {n : Nat} (h : n < 4294967296) : (iZ n).toUInt32.toNat = n := by have := iZ_u n; omega
/-- every long is lZ of its bits -/
theorem lZ_bits (z : Int) : lZ z = lZ ((lZ z).toUInt64.toNat : Int) := by rw [lZ_u, lZ_mod]
theorem iZ_bits (z : Int) : iZ z = iZ ((iZ z).toUInt32.toNat : Int) := by rw [iZ_u, iZ_mod]
theorem lZ_andu (x y : Int64) : (x &&& y).toUInt64.toNat = x.toUInt64.toNat &&& y.toUInt64.toNat := by
  show (x &&& y).toBitVec.toNat = _
  rw [Int64.toBitVec_and, BitVec.toNat_and]; rfl
theorem lZ_oru (x y : Int64) : (x ||| y).toUInt64.toNat = x.toUInt64.toNat ||| y.toUInt64.toNat := by
  show (x ||| y).toBitVec.toNat = _
  rw [Int64.toBitVec_or, BitVec.toNat_or]; rfl
theorem iZ_andu (x y : Int32) : (x &&& y).toUInt32.toNat = x.toUInt32.toNat &&& y.toUInt32.toNat := by
  show (x &&& y).toBitVec.toNat = _
  rw [Int32.toBitVec_and, BitVec.toNat_and]; rfl
theorem iZ_oru (x y : Int32) : (x ||| y).toUInt32.toNat = x.toUInt32.toNat ||| y.toUInt32.toNat := by
  show (x ||| y).toBitVec.toNat = _
  rw [Int32.toBitVec_or, BitVec.toNat_or]; rfl
theorem lZ_mask (z : Int) (n : Nat) (hn : n ≤ 64) : lZ z &&& lZ ((2 ^ n - 1 : Nat) : Int) = lZ (z % ((2 ^ n : Nat) : Int)) := by
  apply lZ_ext
  have h2 : 2 ^ n ≤ 2 ^ 64 := Nat.pow_le_pow_right (by decide) hn
  have h3 : 0 < 2 ^ n := Nat.two_pow_pos n
  rw [lZ_andu, lZ_natu (n := 2 ^ n - 1) (by omega), Nat.and_two_pow_sub_one_eq_mod]
  have hu := lZ_u z
  have hd : ((2 ^ n : Nat) : Int) ∣ 18446744073709551616 := ⟨((2 ^ (64 - n) : Nat) : Int), by
    rw [← Int.natCast_mul, ← Nat.pow_add, show n + (64 - n) = 64 by omega]; rfl⟩
  have h4 : z % 18446744073709551616 % ((2 ^ n : Nat) : Int) = z % ((2 ^ n : Nat) : Int) := Int.emod_emod_of_dvd z hd
  have h5 : (((lZ z).toUInt64.toNat % 2 ^ n : Nat) : Int) = z % ((2 ^ n : Nat) : Int) := by
    rw [Int.natCast_emod, hu, h4]
  rw [h5]
  have h6 : 0 ≤ z % ((2 ^ n : Nat) : Int) := Int.emod_nonneg _ (by omega)
  have h7 : z % ((2 ^ n : Nat) : Int) < ((2 ^ n : Nat) : Int) := Int.emod_lt_of_pos _ (by omega)
  omega
theorem iZ_mask (z : Int) (n : Nat) (hn : n ≤ 32) : iZ z &&& iZ ((2 ^ n - 1 : Nat) : Int) = iZ (z % ((2 ^ n : Nat) : Int)) := by
  apply iZ_ext
  have h2 : 2 ^ n ≤ 2 ^ 32 := Nat.pow_le_pow_right (by decide) hn
  have h3 : 0 < 2 ^ n := Nat.two_pow_pos n
  rw [iZ_andu, iZ_natu (n := 2 ^ n - 1) (by omega), Nat.and_two_pow_sub_one_eq_mod]
  have hu := iZ_u z
  have hd : ((2 ^ n : Nat) : Int) ∣ 4294967296 := ⟨((2 ^ (32 - n) : Nat) : Int), by
    rw [← Int.natCast_mul, ← Nat.pow_add, show n + (32 - n) = 32 by omega]; rfl⟩
  have h4 : z % 4294967296 % ((2 ^ n : Nat) : Int) = z % ((2 ^ n : Nat) : Int) := Int.emod_emod_of_dvd z hd
  have h5 : (((iZ z).toUInt32.toNat % 2 ^ n : Nat) : Int) = z % ((2 ^ n : Nat) : Int) := by
    rw [Int.natCast_emod, hu, h4]
  rw [h5]
  have h6 : 0 ≤ z % ((2 ^ n : Nat) : Int) := Int.emod_nonneg _ (by omega)
  have h7 : z % ((2 ^ n : Nat) : Int) < ((2 ^ n : Nat) : Int) := Int.emod_lt_of_pos _ (by omega)
  omega
theorem lZ_low (z : Int) : lZ z &&& lZ 4294967295 = lZ (z % 4294967296) := lZ_mask z 32 (by decide)
theorem lZ_low16 (z : Int) : lZ z &&& lZ 65535 = lZ (z % 65536) := lZ_mask z 16 (by decide)
theorem iZ_low16 (z : Int) : iZ z &&& iZ 65535 = iZ (z % 65536) := iZ_mask z 16 (by decide)
theorem iZ_low4 (z : Int) : iZ z &&& iZ 15 = iZ (z % 16) := iZ_mask z 4 (by decide)
theorem iZ_low1 (z : Int) : iZ z &&& iZ 1 = iZ (z % 2) := iZ_mask z 1 (by decide)
/-- shifts -/
theorem lZ_amt {n : Nat} (hn : n < 64) : (iZ n).toInt64 &&& 63 = lZ n := by
  rw [i2lZ ⟨by omega, by omega⟩, show (63 : Int64) = lZ ((2 ^ 6 - 1 : Nat) : Int) from by decide, lZ_mask _ 6 (by decide)]
  congr 1; omega
theorem iZ_amt {n : Nat} (hn : n < 32) : iZ n &&& 31 = iZ n := by
  rw [show (31 : Int32) = iZ ((2 ^ 5 - 1 : Nat) : Int) from by decide, iZ_mask _ 5 (by decide)]
  congr 1; omega
theorem lZ_shl (z : Int) {n : Nat} (hn : n < 64) : lZ z <<< ((iZ n).toInt64 &&& 63) = lZ (z * ((2 ^ n : Nat) : Int)) := by
  rw [lZ_amt hn]
  have hb : (lZ n).toBitVec.toNat = n := lZ_natu (by omega)
  have h1 : lZ z <<< lZ n = ⟨⟨(lZ z).toBitVec <<< n⟩⟩ := by
    apply Int64.toBitVec.inj
    rw [Int64.toBitVec_shiftLeft]
    show (lZ z).toBitVec <<< ((lZ ↑n).toBitVec.smod 64) = (lZ z).toBitVec <<< n
    have hs : (lZ (n : Int)).toBitVec.smod 64 = (lZ (n : Int)).toBitVec := by
      apply BitVec.eq_of_toInt_eq
      rw [BitVec.toInt_smod]
      have ht : (lZ (n : Int)).toBitVec.toInt = n := lZ_toInt ⟨by omega, by omega⟩
      rw [ht]
      show (n : Int).fmod 64 = n
      rw [Int.fmod_eq_emod_of_nonneg _ (by decide)]
      omega
    rw [hs, BitVec.shiftLeft_eq', hb]
  rw [h1]
  apply lZ_ext
  show (((lZ z).toBitVec <<< n).toNat : Int) = _
  rw [BitVec.toNat_shiftLeft, Nat.shiftLeft_eq, Int.natCast_emod, Int.natCast_mul]
  have hu : ((lZ z).toBitVec.toNat : Int) = z % 18446744073709551616 := lZ_u z
  rw [hu]
  show z % 18446744073709551616 * ((2 ^ n : Nat) : Int) % 18446744073709551616 = _
  rw [Int.mul_emod, Int.emod_emod_of_dvd _ (Int.dvd_refl _), ← Int.mul_emod]
theorem lZ_ushr (z : Int) {n : Nat} (hn : n < 64) : ((lZ z).toUInt64 >>> ((iZ n).toInt64.toUInt64 &&& Int64.toUInt64 63)).toInt64 = lZ (z % 18446744073709551616 / ((2 ^ n : Nat) : Int)) := by
  apply lZ_ext
  have h0 : ((iZ n).toInt64.toUInt64 &&& Int64.toUInt64 63) = (lZ n).toUInt64 := by
    rw [← lZ_amt hn]; rfl
  rw [h0]
  have h1 : ((lZ z).toUInt64 >>> (lZ (n : Int)).toUInt64).toInt64.toUInt64.toNat = (lZ z).toUInt64.toNat / 2 ^ n := by
    show ((lZ z).toUInt64 >>> (lZ (n : Int)).toUInt64).toNat = _
    rw [UInt64.toNat_shiftRight, lZ_natu (n := n) (by omega), Nat.mod_eq_of_lt hn, Nat.shiftRight_eq_div_pow]
  rw [h1, Int.natCast_ediv, lZ_u]
  have h2 : 0 ≤ z % 18446744073709551616 := Int.emod_nonneg _ (by decide)
  have h3 : z % 18446744073709551616 < 18446744073709551616 := Int.emod_lt_of_pos _ (by decide)
  have h4 : (0 : Int) < ((2 ^ n : Nat) : Int) := by have := Nat.two_pow_pos n; omega
  have h5 : z % 18446744073709551616 / ((2 ^ n : Nat) : Int) ≤ z % 18446744073709551616 := Int.ediv_le_self _ h2
  have h6 : 0 ≤ z % 18446744073709551616 / ((2 ^ n : Nat) : Int) := Int.ediv_nonneg h2 (Int.le_of_lt h4)
  omega
theorem iZ_ushr (z : Int) {n : Nat} (hn : n < 32) : ((iZ z).toUInt32 >>> ((iZ n).toUInt32 &&& Int32.toUInt32 31)).toInt32 = iZ (z % 4294967296 / ((2 ^ n : Nat) : Int)) := by
  apply iZ_ext
  have h0 : ((iZ n).toUInt32 &&& Int32.toUInt32 31) = (iZ n).toUInt32 := by
    have h9 : (iZ (n : Int) &&& 31).toUInt32 = (iZ n).toUInt32 := by rw [iZ_amt hn]
    exact h9
  rw [h0]
  have h1 : ((iZ z).toUInt32 >>> (iZ (n : Int)).toUInt32).toInt32.toUInt32.toNat = (iZ z).toUInt32.toNat / 2 ^ n := by
    show ((iZ z).toUInt32 >>> (iZ (n : Int)).toUInt32).toNat = _
    rw [UInt32.toNat_shiftRight, iZ_natu (n := n) (by omega), Nat.mod_eq_of_lt hn, Nat.shiftRight_eq_div_pow]
  rw [h1, Int.natCast_ediv, iZ_u]
  have h2 : 0 ≤ z % 4294967296 := Int.emod_nonneg _ (by decide)
  have h3 : z % 4294967296 < 4294967296 := Int.emod_lt_of_pos _ (by decide)
  have h4 : (0 : Int) < ((2 ^ n : Nat) : Int) := by have := Nat.two_pow_pos n; omega
  have h5 : z % 4294967296 / ((2 ^ n : Nat) : Int) ≤ z % 4294967296 := Int.ediv_le_self _ h2
  have h6 : 0 ≤ z % 4294967296 / ((2 ^ n : Nat) : Int) := Int.ediv_nonneg h2 (Int.le_of_lt h4)
  omega
theorem iZ_shl (z : Int) {n : Nat} (hn : n < 32) : iZ z <<< (iZ n &&& 31) = iZ (z * ((2 ^ n : Nat) : Int)) := by
  rw [iZ_amt hn]
  have hb : (iZ n).toBitVec.toNat = n := iZ_natu (by omega)
  have h1 : iZ z <<< iZ n = ⟨⟨(iZ z).toBitVec <<< n⟩⟩ := by
    apply Int32.toBitVec.inj
    rw [Int32.toBitVec_shiftLeft]
    show (iZ z).toBitVec <<< ((iZ ↑n).toBitVec.smod 32) = (iZ z).toBitVec <<< n
    have hs : (iZ (n : Int)).toBitVec.smod 32 = (iZ (n : Int)).toBitVec := by
      apply BitVec.eq_of_toInt_eq
      rw [BitVec.toInt_smod]
      have ht : (iZ (n : Int)).toBitVec.toInt = n := iZ_toInt ⟨by omega, by omega⟩
      rw [ht]
      show (n : Int).fmod 32 = n
      rw [Int.fmod_eq_emod_of_nonneg _ (by decide)]
      omega
    rw [hs, BitVec.shiftLeft_eq', hb]
  rw [h1]
  apply iZ_ext
  show (((iZ z).toBitVec <<< n).toNat : Int) = _
  rw [BitVec.toNat_shiftLeft, Nat.shiftLeft_eq, Int.natCast_emod, Int.natCast_mul]
  have hu : ((iZ z).toBitVec.toNat : Int) = z % 4294967296 := iZ_u z
  rw [hu]
  show z % 4294967296 * ((2 ^ n : Nat) : Int) % 4294967296 = _
  rw [Int.mul_emod, Int.emod_emod_of_dvd _ (Int.dvd_refl _), ← Int.mul_emod]
theorem iZ_shr {z : Int} (hz : i32 z) {n : Nat} (hn : n < 32) : iZ z >>> (iZ n &&& 31) = iZ (z / ((2 ^ n : Nat) : Int)) := by
  rw [iZ_amt hn]
  have hb : (iZ n).toBitVec.toNat = n := iZ_natu (by omega)
  have hs : (iZ (n : Int)).toBitVec.smod 32 = (iZ (n : Int)).toBitVec := by
    apply BitVec.eq_of_toInt_eq
    rw [BitVec.toInt_smod]
    have ht : (iZ (n : Int)).toBitVec.toInt = n := iZ_toInt ⟨by omega, by omega⟩
    rw [ht]
    show (n : Int).fmod 32 = n
    rw [Int.fmod_eq_emod_of_nonneg _ (by decide)]
    omega
  have h1 : (iZ z >>> iZ n).toInt = z / ((2 ^ n : Nat) : Int) := by
    show (iZ z >>> iZ n).toBitVec.toInt = _
    rw [Int32.toBitVec_shiftRight]
    show ((iZ z).toBitVec.sshiftRight' ((iZ (n : Int)).toBitVec.smod 32)).toInt = _
    rw [hs]
    show ((iZ z).toBitVec.sshiftRight ((iZ (n : Int)).toBitVec.toNat)).toInt = _
    rw [hb, BitVec.toInt_sshiftRight]
    have ht : (iZ z).toBitVec.toInt = z := iZ_toInt hz
    rw [ht, Int.shiftRight_eq_div_pow]
  rw [← h1]
  exact (iZ_of _).symm
theorem lZ_shr {z : Int} (hz : i64 z) {n : Nat} (hn : n < 64) : lZ z >>> ((iZ n).toInt64 &&& 63) = lZ (z / ((2 ^ n : Nat) : Int)) := by
  rw [lZ_amt hn]
  have hb : (lZ n).toBitVec.toNat = n := lZ_natu (by omega)
  have hs : (lZ (n : Int)).toBitVec.smod 64 = (lZ (n : Int)).toBitVec := by
    apply BitVec.eq_of_toInt_eq
    rw [BitVec.toInt_smod]
    have ht : (lZ (n : Int)).toBitVec.toInt = n := lZ_toInt ⟨by omega, by omega⟩
    rw [ht]
    show (n : Int).fmod 64 = n
    rw [Int.fmod_eq_emod_of_nonneg _ (by decide)]
    omega
  have h1 : (lZ z >>> lZ n).toInt = z / ((2 ^ n : Nat) : Int) := by
    show (lZ z >>> lZ n).toBitVec.toInt = _
    rw [Int64.toBitVec_shiftRight]
    show ((lZ z).toBitVec.sshiftRight' ((lZ (n : Int)).toBitVec.smod 64)).toInt = _
    rw [hs]
    show ((lZ z).toBitVec.sshiftRight ((lZ (n : Int)).toBitVec.toNat)).toInt = _
    rw [hb, BitVec.toInt_sshiftRight]
    have ht : (lZ z).toBitVec.toInt = z := lZ_toInt hz
    rw [ht, Int.shiftRight_eq_div_pow]
  rw [← h1]
  exact (lZ_of _).symm
/-- 'or' of numbers whose bits lie apart -/
theorem lZ_or {a b : Int} {n : Nat} (hn : n ≤ 64) (hb : 0 ≤ b ∧ b < ((2 ^ n : Nat) : Int)) : lZ (a * ((2 ^ n : Nat) : Int)) ||| lZ b = lZ (a * ((2 ^ n : Nat) : Int) + b) := by
  have h2 : 2 ^ n ≤ 2 ^ 64 := Nat.pow_le_pow_right (by decide) hn
  have h3 : 0 < 2 ^ n := Nat.two_pow_pos n
  apply lZ_ext
  obtain ⟨bn, rfl⟩ := Int.eq_ofNat_of_zero_le hb.1
  have hbn : bn < 2 ^ n := by have := hb.2; omega
  have hM : (18446744073709551616 : Int) = ((2 ^ n : Nat) : Int) * ((2 ^ (64 - n) : Nat) : Int) := by
    rw [← Int.natCast_mul, ← Nat.pow_add, show n + (64 - n) = 64 by omega]; rfl
  have hA : (a * ((2 ^ n : Nat) : Int)) % 18446744073709551616 = ((2 ^ n : Nat) : Int) * (a % ((2 ^ (64 - n) : Nat) : Int)) := by
    rw [hM, Int.mul_comm a, Int.mul_emod_mul_of_pos _ _ (by omega)]
  have h4 : (0 : Int) < ((2 ^ (64 - n) : Nat) : Int) := by have := Nat.two_pow_pos (64 - n); omega
  obtain ⟨an, han⟩ := Int.eq_ofNat_of_zero_le (Int.emod_nonneg a (Int.ne_of_gt h4))
  have han2 : an < 2 ^ (64 - n) := by have := Int.emod_lt_of_pos a h4; omega
  rw [han, ← Int.natCast_mul] at hA
  have hle : 2 ^ n * an + bn < 18446744073709551616 := by
    have q1 : 2 ^ n * (an + 1) ≤ 2 ^ n * 2 ^ (64 - n) := Nat.mul_le_mul_left _ han2
    rw [← Nat.pow_add, show n + (64 - n) = 64 by omega, Nat.mul_add] at q1
    omega
  rw [lZ_oru, lZ_natu (n := bn) (by omega)]
  have hu : (lZ (a * ((2 ^ n : Nat) : Int))).toUInt64.toNat = 2 ^ n * an := by have := lZ_u (a * ((2 ^ n : Nat) : Int)); omega
  rw [hu, ← Nat.two_pow_add_eq_or_of_lt hbn]
  omega
theorem iZ_or {a b : Int} {n : Nat} (hn : n ≤ 32) (hb : 0 ≤ b ∧ b < ((2 ^ n : Nat) : Int)) : iZ (a * ((2 ^ n : Nat) : Int)) ||| iZ b = iZ (a * ((2 ^ n : Nat) : Int) + b) := by
  have h2 : 2 ^ n ≤ 2 ^ 32 := Nat.pow_le_pow_right (by decide) hn
  have h3 : 0 < 2 ^ n := Nat.two_pow_pos n
  apply iZ_ext
  obtain ⟨bn, rfl⟩ := Int.eq_ofNat_of_zero_le hb.1
  have hbn : bn < 2 ^ n := by have := hb.2; omega
  have hM : (4294967296 : Int) = ((2 ^ n : Nat) : Int) * ((2 ^ (32 - n) : Nat) : Int) := by
    rw [← Int.natCast_mul, ← Nat.pow_add, show n + (32 - n) = 32 by omega]; rfl
  have hA : (a * ((2 ^ n : Nat) : Int)) % 4294967296 = ((2 ^ n : Nat) : Int) * (a % ((2 ^ (32 - n) : Nat) : Int)) := by
    rw [hM, Int.mul_comm a, Int.mul_emod_mul_of_pos _ _ (by omega)]
  have h4 : (0 : Int) < ((2 ^ (32 - n) : Nat) : Int) := by have := Nat.two_pow_pos (32 - n); omega
  obtain ⟨an, han⟩ := Int.eq_ofNat_of_zero_le (Int.emod_nonneg a (Int.ne_of_gt h4))
  have han2 : an < 2 ^ (32 - n) := by have := Int.emod_lt_of_pos a h4; omega
  rw [han, ← Int.natCast_mul] at hA
  have hle : 2 ^ n * an + bn < 4294967296 := by
    have q1 : 2 ^ n * (an + 1) ≤ 2 ^ n * 2 ^ (32 - n) := Nat.mul_le_mul_left _ han2
    rw [← Nat.pow_add, show n + (32 - n) = 32 by omega, Nat.mul_add] at q1
    omega
  rw [iZ_oru, iZ_natu (n := bn) (by omega)]
  have hu : (iZ (a * ((2 ^ n : Nat) : Int))).toUInt32.toNat = 2 ^ n * an := by have := iZ_u (a * ((2 ^ n : Nat) : Int)); omega
  rw [hu, ← Nat.two_pow_add_eq_or_of_lt hbn]
  omega
theorem iZ_or_comm (x y : Int32) : x ||| y = y ||| x := Int32.or_comm x y
end
section
theorem iZ_div {a b : Int} (ha : i32 a) (hb : i32 b) (h0 : 0 ≤ a) : iZ a / iZ b = iZ (a / b) := by
  apply Int32.toInt.inj
  rw [Int32.toInt_div, iZ_toInt ha, iZ_toInt hb, Int.tdiv_eq_ediv_of_nonneg h0]
  show _ = (Int32.ofInt _).toInt
  rw [Int32.toInt_ofInt]
theorem lZ_div {a b : Int} (ha : i64 a) (hb : i64 b) (h0 : 0 ≤ a) : lZ a / lZ b = lZ (a / b) := by
  apply Int64.toInt.inj
  rw [Int64.toInt_div, lZ_toInt ha, lZ_toInt hb, Int.tdiv_eq_ediv_of_nonneg h0]
  show _ = (Int64.ofInt _).toInt
  rw [Int64.toInt_ofInt]
theorem iZ_rem {a b : Int} (ha : i32 a) (hb : i32 b) (h0 : 0 ≤ a) : iZ a - iZ a / iZ b * iZ b = iZ (a % b) := by
  rw [iZ_div ha hb h0, iZ_mul, iZ_sub]
  congr 1
  have := Int.mul_ediv_add_emod a b
  rw [Int.mul_comm b] at this
  omega
theorem lZ_rem {a b : Int} (ha : i64 a) (hb : i64 b) (h0 : 0 ≤ a) : lZ a - lZ a / lZ b * lZ b = lZ (a % b) := by
  rw [lZ_div ha hb h0, lZ_mul, lZ_sub]
  congr 1
  have := Int.mul_ediv_add_emod a b
  rw [Int.mul_comm b] at this
  omega
/-! what a throw needs beside the words: the two statics of Throwable, the texts, the classes' own casts -/
def exN : List String := ["java/lang/IndexOutOfBoundsException", "java/lang/IllegalStateException", "java/lang/IllegalArgumentException"]
def exT : List (Nat × String) := [(46, "the number is too long"), (106, "there is no such register"), (100, "the modulus is below 1"), (97, "there is no such word"), (86, "the root of a number below 0"), (72, "division by 0"), (69, "the quotient and the rest need two registers")]
def exS (U : State) : Prop := (∀ X ∈ exN, (Cond.castable X X).before #[] U = true) ∧ ∀ q ∈ exT, ∃ a, vk_R RX0 q.1 q.2 a U
theorem exS.warm {s U : State} (hW : s.WarmedH U.vm) (h : exS s) : exS U := by
  refine ⟨fun X hX => ?_, fun q hq => ?_⟩
  · have h1 := h.1 X hX
    rw [← Cond.castable_setVm hW.alike X X] at h1
    exact h1
  · obtain ⟨a, ha⟩ := h.2 q hq
    exact ⟨a, vk_R.warm hW ha⟩
def exZ (A : Nat → Prop) (U : State) (H : Heap) : Prop := vx_Zq Bundle.tN "UNASSIGNED_STACK" Bundle.steD A U H ∧ vx_Zq Bundle.tN "SUPPRESSED_SENTINEL" Bundle.listD A U H ∧ exS U
theorem exZ.kept {A : Nat → Prop} {U : State} {H H1 : Heap} (h : exZ A U H) (hq : ∀ a : Nat, a < H.size → ¬ A a → H1[a]? = H[a]?) : exZ A U H1 := ⟨h.1.kept hq, h.2.1.kept hq, h.2.2⟩
theorem exZ.narrow {A B : Nat → Prop} {U : State} {H : Heap} (h : exZ A U H) (hAB : ∀ q, B q → A q) : exZ B U H := ⟨h.1.narrow hAB, h.2.1.narrow hAB, h.2.2⟩
theorem exZ.warm {A : Nat → Prop} {s U : State} {H : Heap} (hW : s.WarmedH U.vm) (h : exZ A s H) : exZ A U H := ⟨h.1.moved hW.alike, h.2.1.moved hW.alike, h.2.2.warm hW⟩
/-! the walk's judgement: the state of the world, the cells made so far, the place, the locals, the stack -/
section JD
variable {σ : Type}
abbrev JT (σ : Type) : Type := σ → Nat → Nat → List (Nat × Value) → List Value → Prop
def wlH (D : va_G) (tys : List (ClassId × FieldType)) (wf : σ → va_W) (A : Nat → Prop) (s : State) (x : σ) (H : Heap) (locs : List Loc) : Prop :=
  va_P D vwCl (wf x) H ∧ va_D A (wf x) ∧ va_S A s.heap H locs
def gPre (D : va_G) (tys : List (ClassId × FieldType)) (wf : σ → va_W) (sz : Nat) (x : σ) : State → Prop := fun U =>
  U.heap.size = sz ∧ va_P D vwCl (wf x) U.heap ∧ va_K D vwCl tys U ∧ va_D (fun _ => True) (wf x) ∧ exZ (va_A (wf x) sz) U U.heap
def gB (D : va_G) (tys : List (ClassId × FieldType)) (wf : σ → va_W) (A : Nat → Prop) (x : σ) (t : State) : Prop := va_P D vwCl (wf x) t.heap ∧ va_D A (wf x)
def Q9 (post : Option Value → σ → Prop) (B : σ → State → Prop) (A : Nat → Prop) : Array Value → State → Outcome → State → Prop := fun _ st oc t => (∃ (r : Option Value) (u : σ), oc = .returned r ∧ post r u ∧ B u t) ∧ va_F A st t
def X9 (px : String → σ → Prop) (B : σ → State → Prop) (A : Nat → Prop) : String → State → State → Prop := fun E st t => ∃ u : σ, px E u ∧ B u t ∧ va_F A st t
abbrev rmK (F k LL : Nat) : Room := { frames := F, cells := k, slots := 6 * k, locals := LL }
/-- a method's contract: from the world of x it returns as post says, or throws as px says -/
def Ct (l : Launch) (D : va_G) (tys : List (ClassId × FieldType)) (wf : σ → va_W) (y : MethodName) (ws : List Cond) (F k LL : Nat) (As : List Value) (x : σ) (post : Option Value → σ → Prop) (px : String → σ → Prop) : Prop :=
  ∀ sz : Nat, vx_Met l y ws (rmK F k LL) (va_Pc As (gPre D tys wf sz x)) (Q9 post (gB D tys wf (va_A (wf x) sz)) (va_A (wf x) sz)) (X9 px (gB D tys wf (va_A (wf x) sz)) (va_A (wf x) sz)) k (6 * k) (va_A (wf x) sz)
def Jd (p : Program) (l : Launch) (e : Env) (R : Room) (s : State) (m : MethodId) (args : Array Value) (below : List Frame) (meth : Method) (c : Code) (Q : State → Prop) (D : va_G) (tys : List (ClassId × FieldType)) (wf : σ → va_W) (A : Nat → Prop) (nL : Nat) : JT σ := fun x k pc lv st =>
  ∀ (H : Heap) (locs : List Loc) (ls : Array Slot), wlH D tys wf A s x H locs → lv_has ls nL lv → W p l e R s m args below meth c H locs k (6 * k) Q (F0 m pc ls st)
def IsJ (l : Launch) (D : va_G) (tys : List (ClassId × FieldType)) (wf : σ → va_W) (cc : ByteArray) (nL : Nat) (Ts : List Cond) (own : String) (F km LL : Nat) (rt : Option FieldType) (post : Option Value → σ → Prop) (px : String → σ → Prop) (J : JT σ) : Prop :=
  ∃ (p : Program) (e : Env) (s : State) (m : MethodId) (args : Array Value) (below : List Frame) (meth : Method) (c : Code) (A : Nat → Prop),
    CallFix p m c cc nL s args Ts own ∧ exZ A s s.heap ∧ (meth.sig.returnType = rt ∧ meth.locks = false ∧ ∀ x ∈ c.exceptionTable.toList, False) ∧ va_K D vwCl tys s ∧ (∀ q, s.heap.size ≤ q → A q) ∧
    J = Jd p l e (rmK F km LL) s m args below meth c (vx_MQ below (Q9 post (gB D tys wf A) A) (X9 px (gB D tys wf A) A) args s km (6 * km) A) D tys wf A nL
/-- a contract out of a walk -/
theorem Ct.of {l : Launch} {D : va_G} {tys : List (ClassId × FieldType)} {wf : σ → va_W} {y : MethodName} {ws ws' : List Cond} {F k LL : Nat} {As : List Value} {x : σ} {post : Option Value → σ → Prop} {px : String → σ → Prop} {cc : ByteArray} {maxL : Nat} {ret : Option FieldType}
    {own : String} (ho : y.cls = own) (hy : plainName y.cls = true) (hw : ws = Cond.code y cc maxL ret :: ws') (hn : (lg_sl As).length ≤ maxL)
    (body : ∀ J : JT σ, IsJ l D tys wf cc maxL ws own F k LL ret post px J → J x 0 0 (lv_args 0 As) []) : Ct l D tys wf y ws F k LL As x post px := by
  subst ho
  intro sz
  refine vx_ofW (cc := cc) (maxL := maxL) (ret := ret) hy hw ?_
  intro p e s m args below meth c s₁ B hml htb hv
  obtain ⟨rfl, hsz, hP, hK, hD0, hE⟩ := hv
  have hts := atoms_spec (ws := ws) B.pre
  have hown : s.vm.findClass y.cls = some m.cls := findClass_of_methodNamed B.named
  subst hsz
  have hD := hD0.self (sz := s.heap.size)
  have hA : ∀ q : Nat, s.heap.size ≤ q → va_A (wf x) s.heap.size q := fun q h => Or.inr h
  have hl := lv_entry As hn
  rw [lg_entry_eq]
  have hJ := body _ ⟨p, e, s, m, As.toArray, below, meth, c, va_A (wf x) s.heap.size, ⟨B.exec, B.bytes, hml, hown, hts⟩, hE, ⟨B.returns, B.notSynchronized, htb⟩, hK, hA, rfl⟩
  exact hJ s.heap [] _ ⟨hP, hD, va_S.rf⟩ hl
section Rows
variable {l : Launch} {D : va_G} {tys : List (ClassId × FieldType)} {wf : σ → va_W} {cc : ByteArray} {nL : Nat} {Ts : List Cond} {own : String} {F km LL : Nat} {rt : Option FieldType} {post : Option Value → σ → Prop} {px : String → σ → Prop} {J : JT σ}
variable {x : σ} {k pc : Nat} {lv : List (Nat × Value)} {rest : List Value}
/-- the locals, listed anew -/
def lvg (lv : List (Nat × Value)) (i : Nat) : Option Value := match lv with
  | [] => none
  | q :: r => if q.1 = i then some q.2 else lvg r i
theorem lvg_at {ls : Array Slot} {n : Nat} {lv : List (Nat × Value)} (h : lv_has ls n lv) {i : Nat} {v : Value} (hv : lvg lv i = some v) : ls[i]? = some (.val v) := by
  have hm : (i, v) ∈ lv := by
    clear h
    induction lv with
    | nil => cases hv
    | cons q r ih =>
      unfold lvg at hv
      split at hv
      · rename_i hq
        cases hv
        rw [← hq]
        exact List.mem_cons_self
      · exact List.mem_cons_of_mem _ (ih hv)
  exact h.2.2 _ hm
theorem lv_re {ls : Array Slot} {n : Nat} {lv lv' : List (Nat × Value)} (h : lv_has ls n lv) (hv : ∀ q ∈ lv', lvg lv q.1 = some q.2) : lv_has ls n lv' := ⟨h.1, h.2.1, fun q hq => lvg_at h (hv q hq)⟩
/-- 'lv' holds all of lv2' as a walk of lists that rfl decides -/
def lvs (lv : List (Nat × Value)) : List (Nat × Value) → Prop
  | [] => True
  | q :: r => lvg lv q.1 = some q.2 ∧ lvs lv r
theorem lvs_all {lv : List (Nat × Value)} : ∀ {lv' : List (Nat × Value)}, lvs lv lv' → ∀ q ∈ lv', lvg lv q.1 = some q.2
  | [], _, q, hq => nomatch hq
  | _ :: _, h, q, hq => (List.mem_cons.mp hq).elim (fun e => by rw [e]; exact h.1) (lvs_all h.2 q)
theorem j_re (hJ : IsJ l D tys wf cc nL Ts own F km LL rt post px J) {lv' : List (Nat × Value)} {st : List Value} (kk : J x k pc lv' st) (h : lvs lv lv') : J x k pc lv st := by
  obtain ⟨p, e, s, m, args, below, meth, c, A, CF, hE, hM, hK, hA, rfl⟩ := hJ
  intro H locs ls hw hl
  exact kk H locs ls hw (lv_re hl (lvs_all h))
end Rows
end JD
end
section
def cz (a b : Int) : Int := if b < a then 1 else if a = b then 0 else -1
theorem cz_spec (a b : Int) : (b < a ∧ cz a b = 1) ∨ (a = b ∧ cz a b = 0) ∨ (a < b ∧ cz a b = -1) := by
  unfold cz
  by_cases h1 : b < a
  · exact Or.inl ⟨h1, if_pos h1⟩
  · by_cases h2 : a = b
    · exact Or.inr (Or.inl ⟨h2, by rw [if_neg h1, if_pos h2]⟩)
    · exact Or.inr (Or.inr ⟨by omega, by rw [if_neg h1, if_neg h2]⟩)
theorem lg_Z {a b : Int} (ha : i64 a) (hb : i64 b) : lg_cmp (lZ a) (lZ b) = iZ (cz a b) := by
  unfold lg_cmp cz
  by_cases h1 : b < a
  · rw [if_pos ((lZ_lt hb ha).mpr h1), if_pos h1]; rfl
  · rw [if_neg (fun q => h1 ((lZ_lt hb ha).mp q)), if_neg h1]
    by_cases h2 : a = b
    · rw [if_pos (by rw [h2]), if_pos h2]; rfl
    · rw [if_neg (fun q => h2 ((lZ_eq ha hb).mp q)), if_neg h2]; rfl
abbrev st1 (lv : List (Nat × Value)) (i : Nat) (v : Value) : List (Nat × Value) := (i, v) :: lv.filter (fun q => !(q.1 == i) && !(q.1 + 1 == i && q.2.category == 2))
abbrev st2 (lv : List (Nat × Value)) (i : Nat) (v : Value) : List (Nat × Value) := (i, v) :: lv.filter (fun q => !(q.1 == i) && (!(q.1 == i + 1) && !(q.1 + 1 == i && q.2.category == 2)))
theorem iZ_0 : (0 : Int32) = iZ 0 := by decide
section RW
variable {σ : Type} {l : Launch} {D : va_G} {tys : List (ClassId × FieldType)} {wf : σ → va_W} {cc : ByteArray} {nL : Nat} {Ts : List Cond} {own : String} {F km LL : Nat} {rt : Option FieldType} {post : Option Value → σ → Prop} {px : String → σ → Prop} {J : JT σ}
variable {x : σ} {k pc : Nat} {lv : List (Nat × Value)} {rest : List Value}
theorem j_iconst (hJ : IsJ l D tys wf cc nL Ts own F km LL rt post px J) {n : Int} (hdg : decode cc pc = .ok (.iconst n, 1)) (kk : J x k (pc + 1) lv (.int (iZ n) :: rest)) : J x k pc lv rest := by
  obtain ⟨p, e, s, m, args, below, meth, c, A, ⟨hx, hb, hml, hown, hts⟩, hE, hM, hK, hA, rfl⟩ := hJ
  intro H locs ls hw hl
  exact lv_iconst hx hb hdg rfl (kk H locs ls hw hl)
theorem j_bipush (hJ : IsJ l D tys wf cc nL Ts own F km LL rt post px J) {n : Int} (hn : (Int8.ofInt n).toInt32 = iZ n) (hdg : decode cc pc = .ok (.bipush n, 2)) (kk : J x k (pc + 2) lv (.int (iZ n) :: rest)) : J x k pc lv rest := by
  obtain ⟨p, e, s, m, args, below, meth, c, A, ⟨hx, hb, hml, hown, hts⟩, hE, hM, hK, hA, rfl⟩ := hJ
  intro H locs ls hw hl
  exact lv_bipush hx hb hdg hn (kk H locs ls hw hl)
theorem j_sipush (hJ : IsJ l D tys wf cc nL Ts own F km LL rt post px J) {n : Int} (hn : (Int16.ofInt n).toInt32 = iZ n) (hdg : decode cc pc = .ok (.sipush n, 3)) (kk : J x k (pc + 3) lv (.int (iZ n) :: rest)) : J x k pc lv rest := by
  obtain ⟨p, e, s, m, args, below, meth, c, A, ⟨hx, hb, hml, hown, hts⟩, hE, hM, hK, hA, rfl⟩ := hJ
  intro H locs ls hw hl
  exact lv_sipush hx hb hdg hn (kk H locs ls hw hl)
theorem j_lconst (hJ : IsJ l D tys wf cc nL Ts own F km LL rt post px J) {n : Fin 2} {z : Int} (hz : Int64.ofNat (n : Nat) = lZ z) (hdg : decode cc pc = .ok (.lconst n, 1)) (kk : J x k (pc + 1) lv (.long (lZ z) :: rest)) : J x k pc lv rest := by
  obtain ⟨p, e, s, m, args, below, meth, c, A, ⟨hx, hb, hml, hown, hts⟩, hE, hM, hK, hA, rfl⟩ := hJ
  intro H locs ls hw hl
  exact lv_lconst hx hb hdg hz (kk H locs ls hw hl)
theorem j_ldc (hJ : IsJ l D tys wf cc nL Ts own F km LL rt post px J) {i : Nat} {v : Int32} {z : Int} (hz : v = iZ z) (hin : Jvm.Cond.constant own i v ∈ Ts) (hdg : decode cc pc = .ok (.ldc i, 2)) (kk : J x k (pc + 2) lv (.int (iZ z) :: rest)) : J x k pc lv rest := by
  obtain ⟨p, e, s, m, args, below, meth, c, A, ⟨hx, hb, hml, hown, hts⟩, hE, hM, hK, hA, rfl⟩ := hJ
  intro H locs ls hw hl
  subst hz
  exact lv_ldc hx hb hown (hts _ hin) hdg (kk H locs ls hw hl)
theorem j_ldc2 (hJ : IsJ l D tys wf cc nL Ts own F km LL rt post px J) {i : Nat} {v : Int64} {z : Int} (hz : v = lZ z) (hin : Jvm.Cond.constantLong own i v ∈ Ts) (hdg : decode cc pc = .ok (.ldc2_w i, 3)) (kk : J x k (pc + 3) lv (.long (lZ z) :: rest)) : J x k pc lv rest := by
  obtain ⟨p, e, s, m, args, below, meth, c, A, ⟨hx, hb, hml, hown, hts⟩, hE, hM, hK, hA, rfl⟩ := hJ
  intro H locs ls hw hl
  subst hz
  exact lv_ldc2 hx hb hown (hts _ hin) hdg (kk H locs ls hw hl)
theorem j_iload_n (hJ : IsJ l D tys wf cc nL Ts own F km LL rt post px J) {i : Fin 4} {v : Int32} (hdg : decode cc pc = .ok (.iload_n i, 1)) (hv : lvg lv (i : Nat) = some (.int v)) (kk : J x k (pc + 1) lv (.int v :: rest)) : J x k pc lv rest := by
  obtain ⟨p, e, s, m, args, below, meth, c, A, ⟨hx, hb, hml, hown, hts⟩, hE, hM, hK, hA, rfl⟩ := hJ
  intro H locs ls hw hl
  exact lv_iload_n hx hb hdg rfl (lvg_at hl hv) (kk H locs ls hw hl)
theorem j_iload (hJ : IsJ l D tys wf cc nL Ts own F km LL rt post px J) {i : Nat} {v : Int32} (hdg : decode cc pc = .ok (.iload i, 2)) (hv : lvg lv i = some (.int v)) (kk : J x k (pc + 2) lv (.int v :: rest)) : J x k pc lv rest := by
  obtain ⟨p, e, s, m, args, below, meth, c, A, ⟨hx, hb, hml, hown, hts⟩, hE, hM, hK, hA, rfl⟩ := hJ
  intro H locs ls hw hl
  exact lv_iload hx hb hdg (lvg_at hl hv) (kk H locs ls hw hl)
theorem j_istore_n (hJ : IsJ l D tys wf cc nL Ts own F km LL rt post px J) {i : Fin 4} {v : Int32} (hn : (i : Nat) < nL) (hdg : decode cc pc = .ok (.istore_n i, 1)) (kk : J x k (pc + 1) (st1 lv (i : Nat) (.int v)) rest) : J x k pc lv (.int v :: rest) := by
  obtain ⟨p, e, s, m, args, below, meth, c, A, ⟨hx, hb, hml, hown, hts⟩, hE, hM, hK, hA, rfl⟩ := hJ
  intro H locs ls hw hl
  exact lv_istore_n hx hb hdg rfl hl hn rfl (fun ls' hl' => kk H locs ls' hw hl')
theorem j_istore (hJ : IsJ l D tys wf cc nL Ts own F km LL rt post px J) {i : Nat} {v : Int32} (hn : i < nL) (hdg : decode cc pc = .ok (.istore i, 2)) (kk : J x k (pc + 2) (st1 lv i (.int v)) rest) : J x k pc lv (.int v :: rest) := by
  obtain ⟨p, e, s, m, args, below, meth, c, A, ⟨hx, hb, hml, hown, hts⟩, hE, hM, hK, hA, rfl⟩ := hJ
  intro H locs ls hw hl
  exact lv_istore hx hb hdg hl hn rfl (fun ls' hl' => kk H locs ls' hw hl')
theorem j_lload_n (hJ : IsJ l D tys wf cc nL Ts own F km LL rt post px J) {i : Fin 4} {v : Int64} (hdg : decode cc pc = .ok (.lload_n i, 1)) (hv : lvg lv (i : Nat) = some (.long v)) (kk : J x k (pc + 1) lv (.long v :: rest)) : J x k pc lv rest := by
  obtain ⟨p, e, s, m, args, below, meth, c, A, ⟨hx, hb, hml, hown, hts⟩, hE, hM, hK, hA, rfl⟩ := hJ
  intro H locs ls hw hl
  exact lv_lload_n hx hb hdg rfl (lvg_at hl hv) (kk H locs ls hw hl)
theorem j_lload (hJ : IsJ l D tys wf cc nL Ts own F km LL rt post px J) {i : Nat} {v : Int64} (hdg : decode cc pc = .ok (.lload i, 2)) (hv : lvg lv i = some (.long v)) (kk : J x k (pc + 2) lv (.long v :: rest)) : J x k pc lv rest := by
  obtain ⟨p, e, s, m, args, below, meth, c, A, ⟨hx, hb, hml, hown, hts⟩, hE, hM, hK, hA, rfl⟩ := hJ
  intro H locs ls hw hl
  exact lv_lload hx hb hdg (lvg_at hl hv) (kk H locs ls hw hl)
theorem j_lstore_n (hJ : IsJ l D tys wf cc nL Ts own F km LL rt post px J) {i : Fin 4} {v : Int64} (hn : (i : Nat) + 1 < nL) (hdg : decode cc pc = .ok (.lstore_n i, 1)) (kk : J x k (pc + 1) (st2 lv (i : Nat) (.long v)) rest) : J x k pc lv (.long v :: rest) := by
  obtain ⟨p, e, s, m, args, below, meth, c, A, ⟨hx, hb, hml, hown, hts⟩, hE, hM, hK, hA, rfl⟩ := hJ
  intro H locs ls hw hl
  exact lv_lstore_n hx hb hdg rfl hl hn rfl (fun ls' hl' => kk H locs ls' hw hl')
theorem j_lstore (hJ : IsJ l D tys wf cc nL Ts own F km LL rt post px J) {i : Nat} {v : Int64} (hn : i + 1 < nL) (hdg : decode cc pc = .ok (.lstore i, 2)) (kk : J x k (pc + 2) (st2 lv i (.long v)) rest) : J x k pc lv (.long v :: rest) := by
  obtain ⟨p, e, s, m, args, below, meth, c, A, ⟨hx, hb, hml, hown, hts⟩, hE, hM, hK, hA, rfl⟩ := hJ
  intro H locs ls hw hl
  exact lv_lstore hx hb hdg hl hn rfl (fun ls' hl' => kk H locs ls' hw hl')
theorem j_aload_n (hJ : IsJ l D tys wf cc nL Ts own F km LL rt post px J) {i : Fin 4} {v : Nat} (hdg : decode cc pc = .ok (.aload_n i, 1)) (hv : lvg lv (i : Nat) = some (.ref v)) (kk : J x k (pc + 1) lv (.ref v :: rest)) : J x k pc lv rest := by
  obtain ⟨p, e, s, m, args, below, meth, c, A, ⟨hx, hb, hml, hown, hts⟩, hE, hM, hK, hA, rfl⟩ := hJ
  intro H locs ls hw hl
  exact lv_aload_n hx hb hdg rfl (lvg_at hl hv) (kk H locs ls hw hl)
theorem j_aload (hJ : IsJ l D tys wf cc nL Ts own F km LL rt post px J) {i : Nat} {v : Nat} (hdg : decode cc pc = .ok (.aload i, 2)) (hv : lvg lv i = some (.ref v)) (kk : J x k (pc + 2) lv (.ref v :: rest)) : J x k pc lv rest := by
  obtain ⟨p, e, s, m, args, below, meth, c, A, ⟨hx, hb, hml, hown, hts⟩, hE, hM, hK, hA, rfl⟩ := hJ
  intro H locs ls hw hl
  exact lv_aload hx hb hdg (lvg_at hl hv) (kk H locs ls hw hl)
theorem j_astore_n (hJ : IsJ l D tys wf cc nL Ts own F km LL rt post px J) {i : Fin 4} {v : Nat} (hn : (i : Nat) < nL) (hdg : decode cc pc = .ok (.astore_n i, 1)) (kk : J x k (pc + 1) (st1 lv (i : Nat) (.ref v)) rest) : J x k pc lv (.ref v :: rest) := by
  obtain ⟨p, e, s, m, args, below, meth, c, A, ⟨hx, hb, hml, hown, hts⟩, hE, hM, hK, hA, rfl⟩ := hJ
  intro H locs ls hw hl
  exact lv_astore_n hx hb hdg rfl hl hn rfl (fun ls' hl' => kk H locs ls' hw hl')
theorem j_astore (hJ : IsJ l D tys wf cc nL Ts own F km LL rt post px J) {i : Nat} {v : Nat} (hn : i < nL) (hdg : decode cc pc = .ok (.astore i, 2)) (kk : J x k (pc + 2) (st1 lv i (.ref v)) rest) : J x k pc lv (.ref v :: rest) := by
  obtain ⟨p, e, s, m, args, below, meth, c, A, ⟨hx, hb, hml, hown, hts⟩, hE, hM, hK, hA, rfl⟩ := hJ
  intro H locs ls hw hl
  exact lv_astore hx hb hdg hl hn rfl (fun ls' hl' => kk H locs ls' hw hl')
theorem lvg_mem {lv : List (Nat × Value)} {i : Nat} {v : Value} (hv : lvg lv i = some v) : ∃ j : Nat, lv[j]? = some (i, v) := by
  induction lv with
  | nil => cases hv
  | cons q r ih =>
    unfold lvg at hv
    split at hv
    · rename_i hq
      cases hv
      exact ⟨0, by rw [← hq]; rfl⟩
    · obtain ⟨j, hj⟩ := ih hv
      exact ⟨j + 1, hj⟩
theorem j_iinc (hJ : IsJ l D tys wf cc nL Ts own F km LL rt post px J) {i : Nat} {n a : Int} (hn : i < nL) (hdg : decode cc pc = .ok (.iinc i n, 3)) (hv : lvg lv i = some (.int (iZ a))) (kk : J x k (pc + 3) (st1 lv i (.int (iZ (a + n)))) rest) : J x k pc lv rest := by
  obtain ⟨p, e, s, m, args, below, meth, c, A, ⟨hx, hb, hml, hown, hts⟩, hE, hM, hK, hA, rfl⟩ := hJ
  intro H locs ls hw hl
  obtain ⟨j, hj⟩ := lvg_mem hv
  exact lv_iinc (v := iZ (a + n)) hx hb hdg hl hj (iZ_add a n) hn rfl (fun ls' hl' => kk H locs ls' hw hl')
theorem j_iadd (hJ : IsJ l D tys wf cc nL Ts own F km LL rt post px J) {a b : Int} (hdg : decode cc pc = .ok (.iadd, 1)) (kk : J x k (pc + 1) lv (.int (iZ (a + b)) :: rest)) : J x k pc lv (.int (iZ b) :: .int (iZ a) :: rest) := by
  obtain ⟨p, e, s, m, args, below, meth, c, A, ⟨hx, hb, hml, hown, hts⟩, hE, hM, hK, hA, rfl⟩ := hJ
  intro H locs ls hw hl
  refine lv_iadd hx hb hdg ?_
  rw [iZ_add]
  exact kk H locs ls hw hl
theorem j_ladd (hJ : IsJ l D tys wf cc nL Ts own F km LL rt post px J) {a b : Int} (hdg : decode cc pc = .ok (.ladd, 1)) (kk : J x k (pc + 1) lv (.long (lZ (a + b)) :: rest)) : J x k pc lv (.long (lZ b) :: .long (lZ a) :: rest) := by
  obtain ⟨p, e, s, m, args, below, meth, c, A, ⟨hx, hb, hml, hown, hts⟩, hE, hM, hK, hA, rfl⟩ := hJ
  intro H locs ls hw hl
  refine lv_ladd hx hb hdg ?_
  rw [lZ_add]
  exact kk H locs ls hw hl
theorem j_isub (hJ : IsJ l D tys wf cc nL Ts own F km LL rt post px J) {a b : Int} (hdg : decode cc pc = .ok (.isub, 1)) (kk : J x k (pc + 1) lv (.int (iZ (a - b)) :: rest)) : J x k pc lv (.int (iZ b) :: .int (iZ a) :: rest) := by
  obtain ⟨p, e, s, m, args, below, meth, c, A, ⟨hx, hb, hml, hown, hts⟩, hE, hM, hK, hA, rfl⟩ := hJ
  intro H locs ls hw hl
  refine lv_isub hx hb hdg ?_
  rw [iZ_sub]
  exact kk H locs ls hw hl
theorem j_lsub (hJ : IsJ l D tys wf cc nL Ts own F km LL rt post px J) {a b : Int} (hdg : decode cc pc = .ok (.lsub, 1)) (kk : J x k (pc + 1) lv (.long (lZ (a - b)) :: rest)) : J x k pc lv (.long (lZ b) :: .long (lZ a) :: rest) := by
  obtain ⟨p, e, s, m, args, below, meth, c, A, ⟨hx, hb, hml, hown, hts⟩, hE, hM, hK, hA, rfl⟩ := hJ
  intro H locs ls hw hl
  refine lv_lsub hx hb hdg ?_
  rw [lZ_sub]
  exact kk H locs ls hw hl
theorem j_imul (hJ : IsJ l D tys wf cc nL Ts own F km LL rt post px J) {a b : Int} (hdg : decode cc pc = .ok (.imul, 1)) (kk : J x k (pc + 1) lv (.int (iZ (a * b)) :: rest)) : J x k pc lv (.int (iZ b) :: .int (iZ a) :: rest) := by
  obtain ⟨p, e, s, m, args, below, meth, c, A, ⟨hx, hb, hml, hown, hts⟩, hE, hM, hK, hA, rfl⟩ := hJ
  intro H locs ls hw hl
  refine lv_imul hx hb hdg ?_
  rw [iZ_mul]
  exact kk H locs ls hw hl
theorem j_lmul (hJ : IsJ l D tys wf cc nL Ts own F km LL rt post px J) {a b : Int} (hdg : decode cc pc = .ok (.lmul, 1)) (kk : J x k (pc + 1) lv (.long (lZ (a * b)) :: rest)) : J x k pc lv (.long (lZ b) :: .long (lZ a) :: rest) := by
  obtain ⟨p, e, s, m, args, below, meth, c, A, ⟨hx, hb, hml, hown, hts⟩, hE, hM, hK, hA, rfl⟩ := hJ
  intro H locs ls hw hl
  refine lv_lmul hx hb hdg ?_
  rw [lZ_mul]
  exact kk H locs ls hw hl
theorem j_ineg (hJ : IsJ l D tys wf cc nL Ts own F km LL rt post px J) {a : Int} (hdg : decode cc pc = .ok (.ineg, 1)) (kk : J x k (pc + 1) lv (.int (iZ (-a)) :: rest)) : J x k pc lv (.int (iZ a) :: rest) := by
  obtain ⟨p, e, s, m, args, below, meth, c, A, ⟨hx, hb, hml, hown, hts⟩, hE, hM, hK, hA, rfl⟩ := hJ
  intro H locs ls hw hl
  refine lv_ineg hx hb hdg ?_
  rw [iZ_neg]
  exact kk H locs ls hw hl
theorem j_idiv (hJ : IsJ l D tys wf cc nL Ts own F km LL rt post px J) {a b : Int} (hne : ¬ b = 0) (ha0 : i32 a) (hb0 : i32 b) (h0 : 0 ≤ a) (hdg : decode cc pc = .ok (.idiv, 1)) (kk : J x k (pc + 1) lv (.int (iZ (a / b)) :: rest)) : J x k pc lv (.int (iZ b) :: .int (iZ a) :: rest) := by
  obtain ⟨p, e, s, m, args, below, meth, c, A, ⟨hx, hb, hml, hown, hts⟩, hE, hM, hK, hA, rfl⟩ := hJ
  intro H locs ls hw hl
  refine lv_idiv hx hb hdg (fun q => hne ((iZ_eq hb0 ⟨by decide, by decide⟩).mp (q.trans (show (0 : Int32) = iZ 0 by decide)))) ?_
  rw [iZ_div ha0 hb0 h0]
  exact kk H locs ls hw hl
theorem j_irem (hJ : IsJ l D tys wf cc nL Ts own F km LL rt post px J) {a b : Int} (hne : ¬ b = 0) (ha0 : i32 a) (hb0 : i32 b) (h0 : 0 ≤ a) (hdg : decode cc pc = .ok (.irem, 1)) (kk : J x k (pc + 1) lv (.int (iZ (a % b)) :: rest)) : J x k pc lv (.int (iZ b) :: .int (iZ a) :: rest) := by
  obtain ⟨p, e, s, m, args, below, meth, c, A, ⟨hx, hb, hml, hown, hts⟩, hE, hM, hK, hA, rfl⟩ := hJ
  intro H locs ls hw hl
  refine lv_irem hx hb hdg (fun q => hne ((iZ_eq hb0 ⟨by decide, by decide⟩).mp (q.trans (show (0 : Int32) = iZ 0 by decide)))) ?_
  rw [iZ_rem ha0 hb0 h0]
  exact kk H locs ls hw hl
theorem j_lneg (hJ : IsJ l D tys wf cc nL Ts own F km LL rt post px J) {a : Int} (hdg : decode cc pc = .ok (.lneg, 1)) (kk : J x k (pc + 1) lv (.long (lZ (-a)) :: rest)) : J x k pc lv (.long (lZ a) :: rest) := by
  obtain ⟨p, e, s, m, args, below, meth, c, A, ⟨hx, hb, hml, hown, hts⟩, hE, hM, hK, hA, rfl⟩ := hJ
  intro H locs ls hw hl
  refine lv_lneg hx hb hdg ?_
  rw [lZ_neg]
  exact kk H locs ls hw hl
theorem j_ldiv (hJ : IsJ l D tys wf cc nL Ts own F km LL rt post px J) {a b : Int} (hne : ¬ b = 0) (ha0 : i64 a) (hb0 : i64 b) (h0 : 0 ≤ a) (hdg : decode cc pc = .ok (.ldiv, 1)) (kk : J x k (pc + 1) lv (.long (lZ (a / b)) :: rest)) : J x k pc lv (.long (lZ b) :: .long (lZ a) :: rest) := by
  obtain ⟨p, e, s, m, args, below, meth, c, A, ⟨hx, hb, hml, hown, hts⟩, hE, hM, hK, hA, rfl⟩ := hJ
  intro H locs ls hw hl
  refine lv_ldiv hx hb hdg (fun q => hne ((lZ_eq hb0 ⟨by decide, by decide⟩).mp (q.trans (show (0 : Int64) = lZ 0 by decide)))) ?_
  rw [lZ_div ha0 hb0 h0]
  exact kk H locs ls hw hl
theorem j_lrem (hJ : IsJ l D tys wf cc nL Ts own F km LL rt post px J) {a b : Int} (hne : ¬ b = 0) (ha0 : i64 a) (hb0 : i64 b) (h0 : 0 ≤ a) (hdg : decode cc pc = .ok (.lrem, 1)) (kk : J x k (pc + 1) lv (.long (lZ (a % b)) :: rest)) : J x k pc lv (.long (lZ b) :: .long (lZ a) :: rest) := by
  obtain ⟨p, e, s, m, args, below, meth, c, A, ⟨hx, hb, hml, hown, hts⟩, hE, hM, hK, hA, rfl⟩ := hJ
  intro H locs ls hw hl
  refine lv_lrem hx hb hdg (fun q => hne ((lZ_eq hb0 ⟨by decide, by decide⟩).mp (q.trans (show (0 : Int64) = lZ 0 by decide)))) ?_
  rw [lZ_rem ha0 hb0 h0]
  exact kk H locs ls hw hl
theorem j_iand (hJ : IsJ l D tys wf cc nL Ts own F km LL rt post px J) {a b z : Int} (hz : iZ a &&& iZ b = iZ z) (hdg : decode cc pc = .ok (.iand, 1)) (kk : J x k (pc + 1) lv (.int (iZ z) :: rest)) : J x k pc lv (.int (iZ b) :: .int (iZ a) :: rest) := by
  obtain ⟨p, e, s, m, args, below, meth, c, A, ⟨hx, hb, hml, hown, hts⟩, hE, hM, hK, hA, rfl⟩ := hJ
  intro H locs ls hw hl
  refine lv_iand hx hb hdg ?_
  rw [hz]
  exact kk H locs ls hw hl
theorem j_ior (hJ : IsJ l D tys wf cc nL Ts own F km LL rt post px J) {a b z : Int} (hz : iZ a ||| iZ b = iZ z) (hdg : decode cc pc = .ok (.ior, 1)) (kk : J x k (pc + 1) lv (.int (iZ z) :: rest)) : J x k pc lv (.int (iZ b) :: .int (iZ a) :: rest) := by
  obtain ⟨p, e, s, m, args, below, meth, c, A, ⟨hx, hb, hml, hown, hts⟩, hE, hM, hK, hA, rfl⟩ := hJ
  intro H locs ls hw hl
  refine lv_ior hx hb hdg ?_
  rw [hz]
  exact kk H locs ls hw hl
theorem j_land (hJ : IsJ l D tys wf cc nL Ts own F km LL rt post px J) {a b z : Int} (hz : lZ a &&& lZ b = lZ z) (hdg : decode cc pc = .ok (.land, 1)) (kk : J x k (pc + 1) lv (.long (lZ z) :: rest)) : J x k pc lv (.long (lZ b) :: .long (lZ a) :: rest) := by
  obtain ⟨p, e, s, m, args, below, meth, c, A, ⟨hx, hb, hml, hown, hts⟩, hE, hM, hK, hA, rfl⟩ := hJ
  intro H locs ls hw hl
  refine lv_land hx hb hdg ?_
  rw [hz]
  exact kk H locs ls hw hl
theorem j_lor (hJ : IsJ l D tys wf cc nL Ts own F km LL rt post px J) {a b z : Int} (hz : lZ a ||| lZ b = lZ z) (hdg : decode cc pc = .ok (.lor, 1)) (kk : J x k (pc + 1) lv (.long (lZ z) :: rest)) : J x k pc lv (.long (lZ b) :: .long (lZ a) :: rest) := by
  obtain ⟨p, e, s, m, args, below, meth, c, A, ⟨hx, hb, hml, hown, hts⟩, hE, hM, hK, hA, rfl⟩ := hJ
  intro H locs ls hw hl
  refine lv_lor hx hb hdg ?_
  rw [hz]
  exact kk H locs ls hw hl
theorem j_ishl (hJ : IsJ l D tys wf cc nL Ts own F km LL rt post px J) {a : Int} {n : Nat} (hn : n < 32) (hdg : decode cc pc = .ok (.ishl, 1)) (kk : J x k (pc + 1) lv (.int (iZ (a * ((2 ^ n : Nat) : Int))) :: rest)) : J x k pc lv (.int (iZ n) :: .int (iZ a) :: rest) := by
  obtain ⟨p, e, s, m, args, below, meth, c, A, ⟨hx, hb, hml, hown, hts⟩, hE, hM, hK, hA, rfl⟩ := hJ
  intro H locs ls hw hl
  refine lv_ishl hx hb hdg ?_
  rw [iZ_shl a hn]
  exact kk H locs ls hw hl
theorem j_ishr (hJ : IsJ l D tys wf cc nL Ts own F km LL rt post px J) {a : Int} {n : Nat} (hn : n < 32) (ha : i32 a) (hdg : decode cc pc = .ok (.ishr, 1)) (kk : J x k (pc + 1) lv (.int (iZ (a / ((2 ^ n : Nat) : Int))) :: rest)) : J x k pc lv (.int (iZ n) :: .int (iZ a) :: rest) := by
  obtain ⟨p, e, s, m, args, below, meth, c, A, ⟨hx, hb, hml, hown, hts⟩, hE, hM, hK, hA, rfl⟩ := hJ
  intro H locs ls hw hl
  refine lv_ishr hx hb hdg ?_
  rw [iZ_shr ha hn]
  exact kk H locs ls hw hl
theorem j_iushr (hJ : IsJ l D tys wf cc nL Ts own F km LL rt post px J) {a : Int} {n : Nat} (hn : n < 32) (hdg : decode cc pc = .ok (.iushr, 1)) (kk : J x k (pc + 1) lv (.int (iZ (a % 4294967296 / ((2 ^ n : Nat) : Int))) :: rest)) : J x k pc lv (.int (iZ n) :: .int (iZ a) :: rest) := by
  obtain ⟨p, e, s, m, args, below, meth, c, A, ⟨hx, hb, hml, hown, hts⟩, hE, hM, hK, hA, rfl⟩ := hJ
  intro H locs ls hw hl
  exact lv_iushr hx hb hdg (iZ_ushr a hn) (kk H locs ls hw hl)
theorem j_lshl (hJ : IsJ l D tys wf cc nL Ts own F km LL rt post px J) {a : Int} {n : Nat} (hn : n < 64) (hdg : decode cc pc = .ok (.lshl, 1)) (kk : J x k (pc + 1) lv (.long (lZ (a * ((2 ^ n : Nat) : Int))) :: rest)) : J x k pc lv (.int (iZ n) :: .long (lZ a) :: rest) := by
  obtain ⟨p, e, s, m, args, below, meth, c, A, ⟨hx, hb, hml, hown, hts⟩, hE, hM, hK, hA, rfl⟩ := hJ
  intro H locs ls hw hl
  exact lv_lshl hx hb hdg (lZ_shl a hn) (kk H locs ls hw hl)
theorem j_lushr (hJ : IsJ l D tys wf cc nL Ts own F km LL rt post px J) {a : Int} {n : Nat} (hn : n < 64) (hdg : decode cc pc = .ok (.lushr, 1)) (kk : J x k (pc + 1) lv (.long (lZ (a % 18446744073709551616 / ((2 ^ n : Nat) : Int))) :: rest)) : J x k pc lv (.int (iZ n) :: .long (lZ a) :: rest) := by
  obtain ⟨p, e, s, m, args, below, meth, c, A, ⟨hx, hb, hml, hown, hts⟩, hE, hM, hK, hA, rfl⟩ := hJ
  intro H locs ls hw hl
  exact lv_lushr hx hb hdg (lZ_ushr a hn) (kk H locs ls hw hl)
theorem j_lshr (hJ : IsJ l D tys wf cc nL Ts own F km LL rt post px J) {a : Int} {n : Nat} (hn : n < 64) (ha : i64 a) (hdg : decode cc pc = .ok (.lshr, 1)) (kk : J x k (pc + 1) lv (.long (lZ (a / ((2 ^ n : Nat) : Int))) :: rest)) : J x k pc lv (.int (iZ n) :: .long (lZ a) :: rest) := by
  obtain ⟨p, e, s, m, args, below, meth, c, A, ⟨hx, hb, hml, hown, hts⟩, hE, hM, hK, hA, rfl⟩ := hJ
  intro H locs ls hw hl
  exact lv_lshr hx hb hdg (lZ_shr ha hn) (kk H locs ls hw hl)
theorem j_i2l (hJ : IsJ l D tys wf cc nL Ts own F km LL rt post px J) {a : Int} (ha : i32 a) (hdg : decode cc pc = .ok (.i2l, 1)) (kk : J x k (pc + 1) lv (.long (lZ a) :: rest)) : J x k pc lv (.int (iZ a) :: rest) := by
  obtain ⟨p, e, s, m, args, below, meth, c, A, ⟨hx, hb, hml, hown, hts⟩, hE, hM, hK, hA, rfl⟩ := hJ
  intro H locs ls hw hl
  exact lv_i2l hx hb hdg (i2lZ ha) (kk H locs ls hw hl)
theorem j_l2i (hJ : IsJ l D tys wf cc nL Ts own F km LL rt post px J) {a : Int} (hdg : decode cc pc = .ok (.l2i, 1)) (kk : J x k (pc + 1) lv (.int (iZ a) :: rest)) : J x k pc lv (.long (lZ a) :: rest) := by
  obtain ⟨p, e, s, m, args, below, meth, c, A, ⟨hx, hb, hml, hown, hts⟩, hE, hM, hK, hA, rfl⟩ := hJ
  intro H locs ls hw hl
  exact lv_l2i hx hb hdg (l2iZ a) (kk H locs ls hw hl)
theorem low_Z (a : Int) : (iZ a).toInt64 &&& lZ 4294967295 = lZ (a % 4294967296) := by
  have h : (iZ a).toInt64 = lZ (iZ a).toInt := by rw [← i2lZ ⟨Int32.le_toInt _, Int32.toInt_lt _⟩, iZ_of]
  rw [h, lZ_low]
  congr 1
  rw [iZ, Int32.toInt_ofInt]
  exact Int.bmod_emod
theorem j_low (hJ : IsJ l D tys wf cc nL Ts own F km LL rt post px J) {i : Nat} {a : Int} (hin : Jvm.Cond.constantLong own i 4294967295 ∈ Ts) (d1 : decode cc pc = .ok (.i2l, 1)) (d2 : decode cc (pc + 1) = .ok (.ldc2_w i, 3)) (d3 : decode cc (pc + 4) = .ok (.land, 1)) (kk : J x k (pc + 5) lv (.long (lZ (a % 4294967296)) :: rest)) : J x k pc lv (.int (iZ a) :: rest) := by
  obtain ⟨p, e, s, m, args, below, meth, c, A, ⟨hx, hb, hml, hown, hts⟩, hE, hM, hK, hA, rfl⟩ := hJ
  intro H locs ls hw hl
  refine lv_i2l hx hb d1 rfl ?_
  refine lv_ldc2 hx hb hown (hts _ hin) d2 ?_
  refine lv_land hx hb d3 ?_
  rw [show (4294967295 : Int64) = lZ 4294967295 by decide, low_Z]
  exact kk H locs ls hw hl
theorem j_dup (hJ : IsJ l D tys wf cc nL Ts own F km LL rt post px J) {v : Value} (hc : v.category = 1) (hdg : decode cc pc = .ok (.dup, 1)) (kk : J x k (pc + 1) lv (v :: v :: rest)) : J x k pc lv (v :: rest) := by
  obtain ⟨p, e, s, m, args, below, meth, c, A, ⟨hx, hb, hml, hown, hts⟩, hE, hM, hK, hA, rfl⟩ := hJ
  intro H locs ls hw hl
  exact lv_dup hx hb hdg hc (kk H locs ls hw hl)
theorem j_dup2 (hJ : IsJ l D tys wf cc nL Ts own F km LL rt post px J) {v u : Value} (hc : v.category = 1) (hd : u.category = 1) (hdg : decode cc pc = .ok (.dup2, 1)) (kk : J x k (pc + 1) lv (v :: u :: v :: u :: rest)) : J x k pc lv (v :: u :: rest) := by
  obtain ⟨p, e, s, m, args, below, meth, c, A, ⟨hx, hb, hml, hown, hts⟩, hE, hM, hK, hA, rfl⟩ := hJ
  intro H locs ls hw hl
  exact lv_dup2_11 hx hb hdg hc hd (kk H locs ls hw hl)
theorem j_goto (hJ : IsJ l D tys wf cc nL Ts own F km LL rt post px J) {off : Int} {tgt : Nat} (ht : (pc : Int) + off = (tgt : Int)) (hdg : decode cc pc = .ok (.goto off, 3)) (kk : J x k tgt lv rest) : J x k pc lv rest := by
  obtain ⟨p, e, s, m, args, below, meth, c, A, ⟨hx, hb, hml, hown, hts⟩, hE, hM, hK, hA, rfl⟩ := hJ
  intro H locs ls hw hl
  exact lv_goto hx hb hdg ht (kk H locs ls hw hl)
theorem j_icmp_eq (hJ : IsJ l D tys wf cc nL Ts own F km LL rt post px J) {a b off : Int} {tgt : Nat} (ht : (pc : Int) + off = (tgt : Int)) (ha : i32 a) (hb0 : i32 b) (hdg : decode cc pc = .ok (.if_icmp .eq off, 3)) (kt : a = b → J x k tgt lv rest) (kf : ¬ a = b → J x k (pc + 3) lv rest) : J x k pc lv (.int (iZ b) :: .int (iZ a) :: rest) := by
  obtain ⟨p, e, s, m, args, below, meth, c, A, ⟨hx, hb, hml, hown, hts⟩, hE, hM, hK, hA, rfl⟩ := hJ
  intro H locs ls hw hl
  exact lv_icmp_eq hx hb hdg ht (fun q => kt ((iZ_eq ha hb0).mp q) H locs ls hw hl) (fun q => kf (fun z => q ((iZ_eq ha hb0).mpr z)) H locs ls hw hl)
theorem j_if_eq (hJ : IsJ l D tys wf cc nL Ts own F km LL rt post px J) {a off : Int} {tgt : Nat} (ht : (pc : Int) + off = (tgt : Int)) (ha : i32 a) (hdg : decode cc pc = .ok (.ifCond .eq off, 3)) (kt : a = 0 → J x k tgt lv rest) (kf : ¬ a = 0 → J x k (pc + 3) lv rest) : J x k pc lv (.int (iZ a) :: rest) := by
  obtain ⟨p, e, s, m, args, below, meth, c, A, ⟨hx, hb, hml, hown, hts⟩, hE, hM, hK, hA, rfl⟩ := hJ
  intro H locs ls hw hl
  have hb0 : i32 0 := ⟨by decide, by decide⟩
  exact lv_if_eq hx hb hdg ht (fun q => kt (by rw [iZ_0] at q; exact (iZ_eq ha hb0).mp q) H locs ls hw hl) (fun q => kf (by rw [iZ_0] at q; exact fun z => q ((iZ_eq ha hb0).mpr z)) H locs ls hw hl)
theorem j_lcmp_eq (hJ : IsJ l D tys wf cc nL Ts own F km LL rt post px J) {a b off : Int} {tgt : Nat} (ht : ((pc + 1 : Nat) : Int) + off = (tgt : Int)) (ha : i64 a) (hb0 : i64 b) (d1 : decode cc pc = .ok (.lcmp, 1)) (hdg : decode cc (pc + 1) = .ok (.ifCond .eq off, 3)) (kt : a = b → J x k tgt lv rest) (kf : ¬ a = b → J x k (pc + 4) lv rest) : J x k pc lv (.long (lZ b) :: .long (lZ a) :: rest) := by
  obtain ⟨p, e, s, m, args, below, meth, c, A, ⟨hx, hb, hml, hown, hts⟩, hE, hM, hK, hA, rfl⟩ := hJ
  intro H locs ls hw hl
  refine W.lcmp hx hb d1 ?_
  rw [lg_Z ha hb0]
  have hs := cz_spec a b
  generalize cz a b = z at hs ⊢
  have hc : i32 z := ⟨by omega, by omega⟩
  have hz : i32 0 := ⟨by decide, by decide⟩
  refine lv_if_eq hx hb hdg ht (fun q => kt ?_ H locs ls hw hl) (fun q => kf ?_ H locs ls hw hl)
  · rw [iZ_0] at q
    have q2 := (iZ_eq hc hz).mp q
    omega
  · rw [iZ_0] at q
    have q2 := (show ¬ z = 0 from fun z => q ((iZ_eq hc hz).mpr z))
    omega
theorem j_icmp_ne (hJ : IsJ l D tys wf cc nL Ts own F km LL rt post px J) {a b off : Int} {tgt : Nat} (ht : (pc : Int) + off = (tgt : Int)) (ha : i32 a) (hb0 : i32 b) (hdg : decode cc pc = .ok (.if_icmp .ne off, 3)) (kt : ¬ a = b → J x k tgt lv rest) (kf : a = b → J x k (pc + 3) lv rest) : J x k pc lv (.int (iZ b) :: .int (iZ a) :: rest) := by
  obtain ⟨p, e, s, m, args, below, meth, c, A, ⟨hx, hb, hml, hown, hts⟩, hE, hM, hK, hA, rfl⟩ := hJ
  intro H locs ls hw hl
  exact lv_icmp_ne hx hb hdg ht (fun q => kt (fun z => q ((iZ_eq ha hb0).mpr z)) H locs ls hw hl) (fun q => kf ((iZ_eq ha hb0).mp q) H locs ls hw hl)
theorem j_if_ne (hJ : IsJ l D tys wf cc nL Ts own F km LL rt post px J) {a off : Int} {tgt : Nat} (ht : (pc : Int) + off = (tgt : Int)) (ha : i32 a) (hdg : decode cc pc = .ok (.ifCond .ne off, 3)) (kt : ¬ a = 0 → J x k tgt lv rest) (kf : a = 0 → J x k (pc + 3) lv rest) : J x k pc lv (.int (iZ a) :: rest) := by
  obtain ⟨p, e, s, m, args, below, meth, c, A, ⟨hx, hb, hml, hown, hts⟩, hE, hM, hK, hA, rfl⟩ := hJ
  intro H locs ls hw hl
  have hb0 : i32 0 := ⟨by decide, by decide⟩
  exact lv_if_ne hx hb hdg ht (fun q => kt (by rw [iZ_0] at q; exact fun z => q ((iZ_eq ha hb0).mpr z)) H locs ls hw hl) (fun q => kf (by rw [iZ_0] at q; exact (iZ_eq ha hb0).mp q) H locs ls hw hl)
theorem j_lcmp_ne (hJ : IsJ l D tys wf cc nL Ts own F km LL rt post px J) {a b off : Int} {tgt : Nat} (ht : ((pc + 1 : Nat) : Int) + off = (tgt : Int)) (ha : i64 a) (hb0 : i64 b) (d1 : decode cc pc = .ok (.lcmp, 1)) (hdg : decode cc (pc + 1) = .ok (.ifCond .ne off, 3)) (kt : ¬ a = b → J x k tgt lv rest) (kf : a = b → J x k (pc + 4) lv rest) : J x k pc lv (.long (lZ b) :: .long (lZ a) :: rest) := by
  obtain ⟨p, e, s, m, args, below, meth, c, A, ⟨hx, hb, hml, hown, hts⟩, hE, hM, hK, hA, rfl⟩ := hJ
  intro H locs ls hw hl
  refine W.lcmp hx hb d1 ?_
  rw [lg_Z ha hb0]
  have hs := cz_spec a b
  generalize cz a b = z at hs ⊢
  have hc : i32 z := ⟨by omega, by omega⟩
  have hz : i32 0 := ⟨by decide, by decide⟩
  refine lv_if_ne hx hb hdg ht (fun q => kt ?_ H locs ls hw hl) (fun q => kf ?_ H locs ls hw hl)
  · rw [iZ_0] at q
    have q2 := (show ¬ z = 0 from fun z => q ((iZ_eq hc hz).mpr z))
    omega
  · rw [iZ_0] at q
    have q2 := (iZ_eq hc hz).mp q
    omega
theorem j_icmp_lt (hJ : IsJ l D tys wf cc nL Ts own F km LL rt post px J) {a b off : Int} {tgt : Nat} (ht : (pc : Int) + off = (tgt : Int)) (ha : i32 a) (hb0 : i32 b) (hdg : decode cc pc = .ok (.if_icmp .lt off, 3)) (kt : a < b → J x k tgt lv rest) (kf : b ≤ a → J x k (pc + 3) lv rest) : J x k pc lv (.int (iZ b) :: .int (iZ a) :: rest) := by
  obtain ⟨p, e, s, m, args, below, meth, c, A, ⟨hx, hb, hml, hown, hts⟩, hE, hM, hK, hA, rfl⟩ := hJ
  intro H locs ls hw hl
  exact lv_icmp_lt hx hb hdg ht (fun q => kt ((iZ_lt ha hb0).mp q) H locs ls hw hl) (fun q => kf (Int.not_lt.mp (fun z => q ((iZ_lt ha hb0).mpr z))) H locs ls hw hl)
theorem j_if_lt (hJ : IsJ l D tys wf cc nL Ts own F km LL rt post px J) {a off : Int} {tgt : Nat} (ht : (pc : Int) + off = (tgt : Int)) (ha : i32 a) (hdg : decode cc pc = .ok (.ifCond .lt off, 3)) (kt : a < 0 → J x k tgt lv rest) (kf : 0 ≤ a → J x k (pc + 3) lv rest) : J x k pc lv (.int (iZ a) :: rest) := by
  obtain ⟨p, e, s, m, args, below, meth, c, A, ⟨hx, hb, hml, hown, hts⟩, hE, hM, hK, hA, rfl⟩ := hJ
  intro H locs ls hw hl
  have hb0 : i32 0 := ⟨by decide, by decide⟩
  exact lv_if_lt hx hb hdg ht (fun q => kt (by rw [iZ_0] at q; exact (iZ_lt ha hb0).mp q) H locs ls hw hl) (fun q => kf (by rw [iZ_0] at q; exact Int.not_lt.mp (fun z => q ((iZ_lt ha hb0).mpr z))) H locs ls hw hl)
theorem j_lcmp_lt (hJ : IsJ l D tys wf cc nL Ts own F km LL rt post px J) {a b off : Int} {tgt : Nat} (ht : ((pc + 1 : Nat) : Int) + off = (tgt : Int)) (ha : i64 a) (hb0 : i64 b) (d1 : decode cc pc = .ok (.lcmp, 1)) (hdg : decode cc (pc + 1) = .ok (.ifCond .lt off, 3)) (kt : a < b → J x k tgt lv rest) (kf : b ≤ a → J x k (pc + 4) lv rest) : J x k pc lv (.long (lZ b) :: .long (lZ a) :: rest) := by
  obtain ⟨p, e, s, m, args, below, meth, c, A, ⟨hx, hb, hml, hown, hts⟩, hE, hM, hK, hA, rfl⟩ := hJ
  intro H locs ls hw hl
  refine W.lcmp hx hb d1 ?_
  rw [lg_Z ha hb0]
  have hs := cz_spec a b
  generalize cz a b = z at hs ⊢
  have hc : i32 z := ⟨by omega, by omega⟩
  have hz : i32 0 := ⟨by decide, by decide⟩
  refine lv_if_lt hx hb hdg ht (fun q => kt ?_ H locs ls hw hl) (fun q => kf ?_ H locs ls hw hl)
  · rw [iZ_0] at q
    have q2 := (iZ_lt hc hz).mp q
    omega
  · rw [iZ_0] at q
    have q2 := Int.not_lt.mp (fun z => q ((iZ_lt hc hz).mpr z))
    omega
theorem j_icmp_ge (hJ : IsJ l D tys wf cc nL Ts own F km LL rt post px J) {a b off : Int} {tgt : Nat} (ht : (pc : Int) + off = (tgt : Int)) (ha : i32 a) (hb0 : i32 b) (hdg : decode cc pc = .ok (.if_icmp .ge off, 3)) (kt : b ≤ a → J x k tgt lv rest) (kf : a < b → J x k (pc + 3) lv rest) : J x k pc lv (.int (iZ b) :: .int (iZ a) :: rest) := by
  obtain ⟨p, e, s, m, args, below, meth, c, A, ⟨hx, hb, hml, hown, hts⟩, hE, hM, hK, hA, rfl⟩ := hJ
  intro H locs ls hw hl
  exact lv_icmp_ge hx hb hdg ht (fun q => kt ((iZ_le hb0 ha).mp q) H locs ls hw hl) (fun q => kf (Int.not_le.mp (fun z => q ((iZ_le hb0 ha).mpr z))) H locs ls hw hl)
theorem j_if_ge (hJ : IsJ l D tys wf cc nL Ts own F km LL rt post px J) {a off : Int} {tgt : Nat} (ht : (pc : Int) + off = (tgt : Int)) (ha : i32 a) (hdg : decode cc pc = .ok (.ifCond .ge off, 3)) (kt : 0 ≤ a → J x k tgt lv rest) (kf : a < 0 → J x k (pc + 3) lv rest) : J x k pc lv (.int (iZ a) :: rest) := by
  obtain ⟨p, e, s, m, args, below, meth, c, A, ⟨hx, hb, hml, hown, hts⟩, hE, hM, hK, hA, rfl⟩ := hJ
  intro H locs ls hw hl
  have hb0 : i32 0 := ⟨by decide, by decide⟩
  exact lv_if_ge hx hb hdg ht (fun q => kt (by rw [iZ_0] at q; exact (iZ_le hb0 ha).mp q) H locs ls hw hl) (fun q => kf (by rw [iZ_0] at q; exact Int.not_le.mp (fun z => q ((iZ_le hb0 ha).mpr z))) H locs ls hw hl)
theorem j_lcmp_ge (hJ : IsJ l D tys wf cc nL Ts own F km LL rt post px J) {a b off : Int} {tgt : Nat} (ht : ((pc + 1 : Nat) : Int) + off = (tgt : Int)) (ha : i64 a) (hb0 : i64 b) (d1 : decode cc pc = .ok (.lcmp, 1)) (hdg : decode cc (pc + 1) = .ok (.ifCond .ge off, 3)) (kt : b ≤ a → J x k tgt lv rest) (kf : a < b → J x k (pc + 4) lv rest) : J x k pc lv (.long (lZ b) :: .long (lZ a) :: rest) := by
  obtain ⟨p, e, s, m, args, below, meth, c, A, ⟨hx, hb, hml, hown, hts⟩, hE, hM, hK, hA, rfl⟩ := hJ
  intro H locs ls hw hl
  refine W.lcmp hx hb d1 ?_
  rw [lg_Z ha hb0]
  have hs := cz_spec a b
  generalize cz a b = z at hs ⊢
  have hc : i32 z := ⟨by omega, by omega⟩
  have hz : i32 0 := ⟨by decide, by decide⟩
  refine lv_if_ge hx hb hdg ht (fun q => kt ?_ H locs ls hw hl) (fun q => kf ?_ H locs ls hw hl)
  · rw [iZ_0] at q
    have q2 := (iZ_le hz hc).mp q
    omega
  · rw [iZ_0] at q
    have q2 := Int.not_le.mp (fun z => q ((iZ_le hz hc).mpr z))
    omega
theorem j_icmp_gt (hJ : IsJ l D tys wf cc nL Ts own F km LL rt post px J) {a b off : Int} {tgt : Nat} (ht : (pc : Int) + off = (tgt : Int)) (ha : i32 a) (hb0 : i32 b) (hdg : decode cc pc = .ok (.if_icmp .gt off, 3)) (kt : b < a → J x k tgt lv rest) (kf : a ≤ b → J x k (pc + 3) lv rest) : J x k pc lv (.int (iZ b) :: .int (iZ a) :: rest) := by
  obtain ⟨p, e, s, m, args, below, meth, c, A, ⟨hx, hb, hml, hown, hts⟩, hE, hM, hK, hA, rfl⟩ := hJ
  intro H locs ls hw hl
  exact lv_icmp_gt hx hb hdg ht (fun q => kt ((iZ_lt hb0 ha).mp q) H locs ls hw hl) (fun q => kf (Int.not_lt.mp (fun z => q ((iZ_lt hb0 ha).mpr z))) H locs ls hw hl)
theorem j_if_gt (hJ : IsJ l D tys wf cc nL Ts own F km LL rt post px J) {a off : Int} {tgt : Nat} (ht : (pc : Int) + off = (tgt : Int)) (ha : i32 a) (hdg : decode cc pc = .ok (.ifCond .gt off, 3)) (kt : 0 < a → J x k tgt lv rest) (kf : a ≤ 0 → J x k (pc + 3) lv rest) : J x k pc lv (.int (iZ a) :: rest) := by
  obtain ⟨p, e, s, m, args, below, meth, c, A, ⟨hx, hb, hml, hown, hts⟩, hE, hM, hK, hA, rfl⟩ := hJ
  intro H locs ls hw hl
  have hb0 : i32 0 := ⟨by decide, by decide⟩
  exact lv_if_gt hx hb hdg ht (fun q => kt (by rw [iZ_0] at q; exact (iZ_lt hb0 ha).mp q) H locs ls hw hl) (fun q => kf (by rw [iZ_0] at q; exact Int.not_lt.mp (fun z => q ((iZ_lt hb0 ha).mpr z))) H locs ls hw hl)
theorem j_lcmp_gt (hJ : IsJ l D tys wf cc nL Ts own F km LL rt post px J) {a b off : Int} {tgt : Nat} (ht : ((pc + 1 : Nat) : Int) + off = (tgt : Int)) (ha : i64 a) (hb0 : i64 b) (d1 : decode cc pc = .ok (.lcmp, 1)) (hdg : decode cc (pc + 1) = .ok (.ifCond .gt off, 3)) (kt : b < a → J x k tgt lv rest) (kf : a ≤ b → J x k (pc + 4) lv rest) : J x k pc lv (.long (lZ b) :: .long (lZ a) :: rest) := by
  obtain ⟨p, e, s, m, args, below, meth, c, A, ⟨hx, hb, hml, hown, hts⟩, hE, hM, hK, hA, rfl⟩ := hJ
  intro H locs ls hw hl
  refine W.lcmp hx hb d1 ?_
  rw [lg_Z ha hb0]
  have hs := cz_spec a b
  generalize cz a b = z at hs ⊢
  have hc : i32 z := ⟨by omega, by omega⟩
  have hz : i32 0 := ⟨by decide, by decide⟩
  refine lv_if_gt hx hb hdg ht (fun q => kt ?_ H locs ls hw hl) (fun q => kf ?_ H locs ls hw hl)
  · rw [iZ_0] at q
    have q2 := (iZ_lt hz hc).mp q
    omega
  · rw [iZ_0] at q
    have q2 := Int.not_lt.mp (fun z => q ((iZ_lt hz hc).mpr z))
    omega
theorem j_icmp_le (hJ : IsJ l D tys wf cc nL Ts own F km LL rt post px J) {a b off : Int} {tgt : Nat} (ht : (pc : Int) + off = (tgt : Int)) (ha : i32 a) (hb0 : i32 b) (hdg : decode cc pc = .ok (.if_icmp .le off, 3)) (kt : a ≤ b → J x k tgt lv rest) (kf : b < a → J x k (pc + 3) lv rest) : J x k pc lv (.int (iZ b) :: .int (iZ a) :: rest) := by
  obtain ⟨p, e, s, m, args, below, meth, c, A, ⟨hx, hb, hml, hown, hts⟩, hE, hM, hK, hA, rfl⟩ := hJ
  intro H locs ls hw hl
  exact lv_icmp_le hx hb hdg ht (fun q => kt ((iZ_le ha hb0).mp q) H locs ls hw hl) (fun q => kf (Int.not_le.mp (fun z => q ((iZ_le ha hb0).mpr z))) H locs ls hw hl)
theorem j_if_le (hJ : IsJ l D tys wf cc nL Ts own F km LL rt post px J) {a off : Int} {tgt : Nat} (ht : (pc : Int) + off = (tgt : Int)) (ha : i32 a) (hdg : decode cc pc = .ok (.ifCond .le off, 3)) (kt : a ≤ 0 → J x k tgt lv rest) (kf : 0 < a → J x k (pc + 3) lv rest) : J x k pc lv (.int (iZ a) :: rest) := by
  obtain ⟨p, e, s, m, args, below, meth, c, A, ⟨hx, hb, hml, hown, hts⟩, hE, hM, hK, hA, rfl⟩ := hJ
  intro H locs ls hw hl
  have hb0 : i32 0 := ⟨by decide, by decide⟩
  exact lv_if_le hx hb hdg ht (fun q => kt (by rw [iZ_0] at q; exact (iZ_le ha hb0).mp q) H locs ls hw hl) (fun q => kf (by rw [iZ_0] at q; exact Int.not_le.mp (fun z => q ((iZ_le ha hb0).mpr z))) H locs ls hw hl)
theorem j_lcmp_le (hJ : IsJ l D tys wf cc nL Ts own F km LL rt post px J) {a b off : Int} {tgt : Nat} (ht : ((pc + 1 : Nat) : Int) + off = (tgt : Int)) (ha : i64 a) (hb0 : i64 b) (d1 : decode cc pc = .ok (.lcmp, 1)) (hdg : decode cc (pc + 1) = .ok (.ifCond .le off, 3)) (kt : a ≤ b → J x k tgt lv rest) (kf : b < a → J x k (pc + 4) lv rest) : J x k pc lv (.long (lZ b) :: .long (lZ a) :: rest) := by
  obtain ⟨p, e, s, m, args, below, meth, c, A, ⟨hx, hb, hml, hown, hts⟩, hE, hM, hK, hA, rfl⟩ := hJ
  intro H locs ls hw hl
  refine W.lcmp hx hb d1 ?_
  rw [lg_Z ha hb0]
  have hs := cz_spec a b
  generalize cz a b = z at hs ⊢
  have hc : i32 z := ⟨by omega, by omega⟩
  have hz : i32 0 := ⟨by decide, by decide⟩
  refine lv_if_le hx hb hdg ht (fun q => kt ?_ H locs ls hw hl) (fun q => kf ?_ H locs ls hw hl)
  · rw [iZ_0] at q
    have q2 := (iZ_le hc hz).mp q
    omega
  · rw [iZ_0] at q
    have q2 := Int.not_le.mp (fun z => q ((iZ_le hc hz).mpr z))
    omega
end RW
end
section
section RC
variable {σ : Type} {l : Launch} {D : va_G} {tys : List (ClassId × FieldType)} {wf : σ → va_W} {cc : ByteArray} {nL : Nat} {Ts : List Cond} {own : String} {F km LL : Nat} {rt : Option FieldType} {post : Option Value → σ → Prop} {px : String → σ → Prop} {J : JT σ}
variable {x : σ} {k pc : Nat} {lv : List (Nat × Value)} {rest : List Value}
theorem j_vret (hJ : IsJ l D tys wf cc nL Ts own F km LL none post px J) (hk : k ≤ km) (hp : post none x) (hdg : decode cc pc = .ok (.return_, 1)) : J x k pc lv [] := by
  obtain ⟨p, e, s, m, args, below, meth, c, A, ⟨hx, hb, hml, hown, hts⟩, hE, hM, hK, hA, rfl⟩ := hJ
  intro H locs ls hw hl
  refine W.widen (k := km) (n := 6 * km) hk (by omega) ?_
  refine vx_ret ?_
  exact W.vret hx hb hM.1 (fun t ht hW => ⟨⟨none, x, rfl, hp, by rw [ht]; exact hw.1, hw.2.1⟩, hw.2.2.F ht⟩) hw.2.2.2.2 hdg hM.2.1
theorem j_iret (hJ : IsJ l D tys wf cc nL Ts own F km LL (some .int) post px J) {v : Int32} (hk : k ≤ km) (hp : post (some (.int v)) x) (hdg : decode cc pc = .ok (.ireturn, 1)) : J x k pc lv [.int v] := by
  obtain ⟨p, e, s, m, args, below, meth, c, A, ⟨hx, hb, hml, hown, hts⟩, hE, hM, hK, hA, rfl⟩ := hJ
  intro H locs ls hw hl
  refine W.widen (k := km) (n := 6 * km) hk (by omega) ?_
  refine vx_ret ?_
  exact W.iret hx hb hM.1 (fun t ht hW => ⟨⟨some (.int v), x, rfl, hp, by rw [ht]; exact hw.1, hw.2.1⟩, hw.2.2.F ht⟩) hw.2.2.2.2 hdg hM.2.1
theorem j_zret (hJ : IsJ l D tys wf cc nL Ts own F km LL (some .boolean) post px J) {v : Int32} (hn : narrow .boolean (.int v) = .int v) (hk : k ≤ km) (hp : post (some (.int v)) x) (hdg : decode cc pc = .ok (.ireturn, 1)) : J x k pc lv [.int v] := by
  obtain ⟨p, e, s, m, args, below, meth, c, A, ⟨hx, hb, hml, hown, hts⟩, hE, hM, hK, hA, rfl⟩ := hJ
  intro H locs ls hw hl
  refine W.widen (k := km) (n := 6 * km) hk (by omega) ?_
  refine vx_ret ?_
  exact W.zret hx hb hM.1 hn (fun t ht hW => ⟨⟨some (.int v), x, rfl, hp, by rw [ht]; exact hw.1, hw.2.1⟩, hw.2.2.F ht⟩) hw.2.2.2.2 hdg hM.2.1
theorem j_lret (hJ : IsJ l D tys wf cc nL Ts own F km LL (some .long) post px J) {v : Int64} (hk : k ≤ km) (hp : post (some (.long v)) x) (hdg : decode cc pc = .ok (.lreturn, 1)) : J x k pc lv [.long v] := by
  obtain ⟨p, e, s, m, args, below, meth, c, A, ⟨hx, hb, hml, hown, hts⟩, hE, hM, hK, hA, rfl⟩ := hJ
  intro H locs ls hw hl
  refine W.widen (k := km) (n := 6 * km) hk (by omega) ?_
  refine vx_ret ?_
  exact W.lret hx hb hM.1 (fun t ht hW => ⟨⟨some (.long v), x, rfl, hp, by rw [ht]; exact hw.1, hw.2.1⟩, hw.2.2.F ht⟩) hw.2.2.2.2 hdg (hlocks := hM.2.1)
/-- a call of an instance method of the same object, over the same world -/
theorem j_callV (hJ : IsJ l D tys wf cc nL Ts own F km LL rt post px J) {y : MethodName} {ws ws' : List Cond} {bytes : ByteArray} {maxL index n F1 kc L1 : Nat} {ret : Option FieldType} {b : Nat} {As st : List Value} {po : Option Value → σ → Prop} {pxo : String → σ → Prop}
    (hM : Ct l D tys wf y ws F1 kc L1 (.ref b :: As) x po pxo) (hst : st = As.reverse ++ .ref b :: rest) (hG : GoodIn Ts (wsV own index own y ws)) (hw : ws = Cond.code y bytes maxL ret :: ws')
    (hd : y.cls = own ∧ y.cls ≠ "java/lang/invoke/MethodHandle" ∧ y.cls ≠ "java/lang/invoke/VarHandle" ∧ (parseMethodDescriptor y.desc).map (fun d => d.parameters.length) = some n) (hn : As.length = n)
    (hR : F1 + 1 ≤ F ∧ 8 + (maxL + 11) + L1 ≤ LL) (hrs : (rest.map fun v => v.category).sum ≤ 8) (hk : k + kc ≤ km)
    {ci : Nat} {fs : List Value} {T : u_T} {N : Nat} (hb0 : (wf x)[0]? = some (b, .inr (ci, fs))) (hci : vwCl[ci]? = some (own, T, N))
    (hdg : decode cc pc = .ok (.invokevirtual index, 3)) (kx : ∀ E x', pxo E x' → px E x')
    (kk : ∀ r x', po r x' → J x' (k + kc) (pc + 3) lv (r.toList ++ rest)) : J x k pc lv st := by
  subst hst
  obtain ⟨p, e, s, m, args, below, meth, c, A, ⟨hx, hb, hml, hown, hts⟩, hE, hMt, hK, hA, rfl⟩ := hJ
  intro H locs ls hww hl
  obtain ⟨hP, hD, hS⟩ := hww
  have hFc : ∀ q, va_A (wf x) H.size q → A q := fun q h => h.elim (fun ⟨k9, e9, h9⟩ => hD.2 k9 _ h9) (fun h9 => hA q (Nat.le_trans hS.1 h9))
  have hE1 : exZ A s H := hE.kept hS.2.1
  have hrun : vx_Run p l e (rmK F km LL) s m args below meth c H locs k (6 * k) kc (6 * kc) (F0 m pc ls (As.reverse ++ .ref b :: rest)) rest _ _ _ := vx_runV (As := As) (rest := rest) (g := F0 m pc ls (As.reverse ++ .ref b :: rest)) ⟨hx, hb, hml, hown, hts⟩ (hM H.size) (cwV n hts hG hw rfl rfl hd hR)
    ⟨fun a U g mk q => by obtain ⟨q0, q1, qP, qK, qD, qE⟩ := q; exact ⟨q0, q1, qP, va_K.moved (u := U) (U := U.calling g mk a) (Vm.Alike.refl U.vm) qK, qD, exZ.warm (s := U) (U := U.calling g mk a) (State.WarmedH.refl U) qE⟩, va_recv hK hP hci hb0,
      fun U hU hW => ⟨rfl, by rw [hU], by rw [hU]; exact hP, va_K.moved hW.alike hK, hD.weaken (fun _ _ _ _ => trivial), by rw [hU]; exact (hE1.narrow hFc).warm hW⟩⟩ rfl hn hl.1 rfl (lv_room hrs) hdg ⟨hk, by show 6 * k + 6 * kc ≤ 6 * km; omega⟩
  intro T9 hT X
  rcases hrun T9 hT X with ⟨v, st₀, t, T', L, h0, X', hL, e1, e2, ⟨⟨r, u, hv, hp, hbb⟩, hF⟩, st⟩ | ⟨q, st₀, t, T', L, E, ce, h0, X', hL, e1, e2, ⟨u, hp, hbb, hF⟩, hce, hcv, hcl, st⟩
  · cases hv
    obtain ⟨k1, k2, k3⟩ := vx_keep h0 e1 hS (fun q _ h => hFc q h) hFc hL hF
    rw [← Nat.mul_add] at X'
    obtain ⟨t2, a1, b1⟩ := kk v u hp T'.heap (locs ++ L) ls ⟨by rw [e1]; exact hbb.1, hbb.2.weaken (fun _ _ _ h => hFc _ h), k3⟩ hl T' rfl X'
    exact ⟨t2, st t2 a1, b1⟩
  · obtain ⟨k1, k2, k3⟩ := vx_keep h0 e1 hS (fun q _ h => hFc q h) hFc hL hF
    rw [← Nat.mul_add] at X'
    obtain ⟨t2, a1, b1⟩ := vx_out (Qc := Q9 post (gB D tys wf A) A) (XC := X9 px (gB D tys wf A) A) (free := A) (mc := km) (ms := 6 * km) (pc := pc) (ls := ls) (rest := rest) (E := E) (ce := ce) (q := q) (H := T'.heap) (fun z hz => (hMt.2.2 z hz).elim) hMt.2.1 (by rw [e1]; exact hce) hcv hcl
      (fun t9 ht9 _ => ⟨u, kx E u hp, ⟨by rw [ht9, e1]; exact hbb.1, hbb.2.weaken (fun _ _ _ h => hFc _ h)⟩, k3.F ht9⟩) k3.2.2 hk (by omega) T' rfl X'
    exact ⟨t2, st.trans a1, b1⟩
/-- the empty world -/
def wE : Unit → va_W := fun _ => []
/-- a call of a static method that knows no cell -/
theorem j_callS (hJ : IsJ l D tys wf cc nL Ts own F km LL rt post px J) {y : MethodName} {ws ws' : List Cond} {bytes : ByteArray} {maxL index n F1 kc L1 : Nat} {ret : Option FieldType} {As st : List Value} {po : Option Value → Unit → Prop} {pxo : String → Unit → Prop}
    (hM : Ct l D [] wE y ws F1 kc L1 As () po pxo) (hst : st = As.reverse ++ rest) (hG : GoodIn Ts (va_wsS own index y ws)) (hw : ws = Cond.code y bytes maxL ret :: ws')
    (hd : y.cls ≠ "java/lang/invoke/MethodHandle" ∧ y.cls ≠ "java/lang/invoke/VarHandle" ∧ (parseMethodDescriptor y.desc).map (fun d => d.parameters.length) = some n) (hn : As.length = n)
    (hR : F1 + 1 ≤ F ∧ 8 + (maxL + 11) + L1 ≤ LL) (hrs : (rest.map fun v => v.category).sum ≤ 8) (hk : k + kc ≤ km)
    (hdg : decode cc pc = .ok (.invokestatic index, 3)) (kx : ∀ E, pxo E () → px E x)
    (kk : ∀ r, po r () → J x (k + kc) (pc + 3) lv (r.toList ++ rest)) : J x k pc lv st := by
  subst hst
  obtain ⟨p, e, s, m, args, below, meth, c, A, ⟨hx, hb, hml, hown, hts⟩, hE, hMt, hK, hA, rfl⟩ := hJ
  intro H locs ls hww hl
  obtain ⟨hP, hD, hS⟩ := hww
  have hFc : ∀ q, va_A (wE ()) H.size q → A q := fun q h => h.elim (fun ⟨k9, e9, h9⟩ => by cases h9) (fun h9 => hA q (Nat.le_trans hS.1 h9))
  have hE1 : exZ A s H := hE.kept hS.2.1
  have hP0 : ∀ H9, va_P D vwCl (wE ()) H9 := fun H9 k9 q9 h9 => by cases h9
  have hD0 : ∀ A9, va_D A9 (wE ()) := fun A9 => ⟨fun i j p q h => (by cases h), fun k9 q9 h9 => (by cases h9)⟩
  have hrun : vx_Run p l e (rmK F km LL) s m args below meth c H locs k (6 * k) kc (6 * kc) (F0 m pc ls (As.reverse ++ rest)) rest _ _ _ := vx_runS (As := As) (rest := rest) (g := F0 m pc ls (As.reverse ++ rest)) ⟨hx, hb, hml, hown, hts⟩ (hM H.size) (va_cwS n hts hG hw rfl rfl hd hR)
    ⟨fun a U g mk q => by obtain ⟨q0, q1, qP, qK, qD, qE⟩ := q; exact ⟨q0, q1, qP, va_K.moved (u := U) (U := U.calling g mk a) (Vm.Alike.refl U.vm) qK, qD, exZ.warm (s := U) (U := U.calling g mk a) (State.WarmedH.refl U) qE⟩,
      fun U hU hW => ⟨rfl, by rw [hU], hP0 _, va_K.moved hW.alike (hK.sub [] rfl), hD0 _, by rw [hU]; exact (hE1.narrow hFc).warm hW⟩⟩ rfl hn hl.1 rfl (lv_room hrs) hdg ⟨hk, by show 6 * k + 6 * kc ≤ 6 * km; omega⟩
  have hkeep : ∀ (H1 : Heap), (∀ q : Nat, q < H.size → ¬ va_A (wE ()) H.size q → H1[q]? = H[q]?) → va_P D vwCl (wf x) H1 := fun H1 h1 => hP.kept (fun k9 q9 h9 => h1 q9.1 ((hP k9 q9 h9).lt) (fun z => z.elim (fun ⟨_, _, h8⟩ => by cases h8) (fun z9 => by have := (hP k9 q9 h9).lt; omega)))
  intro T9 hT X
  rcases hrun T9 hT X with ⟨v, st₀, t, T', L, h0, X', hL, e1, e2, ⟨⟨r, u, hv, hp, hbb⟩, hF⟩, st⟩ | ⟨q, st₀, t, T', L, E, ce, h0, X', hL, e1, e2, ⟨u, hp, hbb, hF⟩, hce, hcv, hcl, st⟩
  · cases hv
    obtain ⟨k1, k2, k3⟩ := vx_keep h0 e1 hS (fun q _ h => hFc q h) hFc hL hF
    rw [← Nat.mul_add] at X'
    obtain ⟨t2, a1, b1⟩ := kk v hp T'.heap (locs ++ L) ls ⟨hkeep _ k2, hD, k3⟩ hl T' rfl X'
    exact ⟨t2, st t2 a1, b1⟩
  · obtain ⟨k1, k2, k3⟩ := vx_keep h0 e1 hS (fun q _ h => hFc q h) hFc hL hF
    rw [← Nat.mul_add] at X'
    obtain ⟨t2, a1, b1⟩ := vx_out (Qc := Q9 post (gB D tys wf A) A) (XC := X9 px (gB D tys wf A) A) (free := A) (mc := km) (ms := 6 * km) (pc := pc) (ls := ls) (rest := rest) (E := E) (ce := ce) (q := q) (H := T'.heap) (fun z hz => (hMt.2.2 z hz).elim) hMt.2.1 (by rw [e1]; exact hce) hcv hcl
      (fun t9 ht9 _ => ⟨x, kx E hp, ⟨by rw [ht9]; exact hkeep _ k2, hD⟩, k3.F ht9⟩) k3.2.2 hk (by omega) T' rfl X'
    exact ⟨t2, st.trans a1, b1⟩
/-- 'throw new E("text")' -/
theorem j_throwS (hJ : IsJ l D tys wf cc nL Ts RX0 F km LL rt post px J) (hl0 : l.stackTraces = false) {cls text : String} {names : List String} {ik is ic : Nat} (hcls : Bundle.fit cls = true) (hnames : ∀ n ∈ names, Bundle.fit n = true)
    (hk : Cond.classLink RX0 ik cls ∈ Ts) (hini : Cond.initialized cls ∈ Ts) (hT : (is, text) ∈ exT) (hN : cls ∈ exN) (hat : ∀ w ∈ (vx_atS RX0 ic cls names).filter goodWord, w ∈ Ts) (hbad : ∀ w ∈ (vx_atS RX0 ic cls names).filter (fun w => !goodWord w), w ∈ [Cond.castable cls cls])
    (hgood : ∀ w ∈ Cond.classLink RX0 ik cls :: Cond.initialized cls :: vx_atS RX0 ic cls names, vx_ot w = true)
    (d0 : decode cc pc = .ok (.new ik, 3)) (d3 : decode cc (pc + 3) = .ok (.dup, 1)) (d4 : decode cc (pc + 4) = .ok (.ldc is, 2)) (d6 : decode cc (pc + 6) = .ok (.invokespecial ic, 3)) (d9 : decode cc (pc + 9) = .ok (.athrow, 1))
    (hF : names.length + 3 < F) (hLL : (rest.map fun v => v.category).sum + (13 * (names.length + 1) + 43) ≤ LL) (hkm : k + 1 ≤ km) (hp : px cls x) : J x k pc lv rest := by
  obtain ⟨p, e, s, m, args, below, meth, c, A, ⟨hx, hb, hml, hown, hts⟩, hE, hMt, hK, hA, rfl⟩ := hJ
  intro H locs ls hw hl
  obtain ⟨sa, hsa⟩ := hE.2.2.2 _ hT
  have hcast : (Cond.castable cls cls).before args s = true := hE.2.2.1 cls hN
  exact vx_throwS (A := A) (ik := ik) (is := is) (ic := ic) hx hb hl0 hown hcls hnames (hts _ hk) (hts _ hini) hsa (vx_hat (fun w h => hts w (hat w h)) hbad (vx_c hcast vx_n)) hgood hE.1 hE.2.1 hw.2.2 (hl.1.trans hml.symm) d0 d3 d4 d6 d9 (fun z hz => (hMt.2.2 z hz).elim) hF hLL hkm (by show 6 * k + 6 ≤ 6 * km; omega) hMt.2.1
    (fun t _ h1 h2 => ⟨x, hp, ⟨hw.1.kept (fun k9 q9 h9 => h2 q9.1 ((hw.1 k9 q9 h9).lt)), hw.2.1⟩, Nat.le_trans hw.2.2.1 h1, fun q h3 h4 => (h2 q (Nat.lt_of_lt_of_le h3 hw.2.2.1)).trans (hw.2.2.2.1 q h3 h4)⟩) hw.2.2.2.2 hkm (by omega)
end RC
end
section
/-! the worlds: of the class, of the reference, of one array -/
abbrev ZZ : Type := Nat → Nat → Int
def zup (Z : ZZ) (j i : Nat) (v : Int) : ZZ := fun j' i' => if j' = j ∧ i' = i then v else Z j' i'
theorem zup_eq (Z : ZZ) (j i : Nat) (v : Int) : zup Z j i v j i = v := if_pos ⟨rfl, rfl⟩
theorem zup_ne {Z : ZZ} {j i j' i' : Nat} {v : Int} (h : ¬ (j' = j ∧ i' = i)) : zup Z j i v j' i' = Z j' i' := if_neg h
/-- the lengths of the class's arrays: counts, signs, result, left, divisor, twelve rows -/
def xln (j : Nat) : Nat := if j < 2 then 12 else if j = 2 then 513 else if j = 3 then 514 else if j = 4 then 513 else 512
theorem xln_lt (j : Nat) : xln j < 2147483648 := by unfold xln; (repeat' split) <;> omega
def wX (cI cO : ClassId) (a : Nat → Nat) (Z : ZZ) : va_W :=
  (a 0, .inr (0, [.ref (a 1), .ref (a 2), .ref (a 3), .ref (a 4), .ref (a 5), .ref (a 6)])) :: (a 1, .inl (cO, 12, .inr (.inr (.inr (.inr (fun i => some (a (i + 7)))))))) :: (List.range 17).map (fun j => (a (j + 2), .inl (cI, xln j, .inl (fun i => iZ (Z j i)))))
abbrev tX (cI cO : ClassId) : List (ClassId × FieldType) := [(cI, .int), (cO, .array .int)]
def wM (cI : ClassId) (a : Nat → Nat) (Z : ZZ) : va_W :=
  [(a 0, .inr (1, [.int (iZ (Z 0 0)), .ref (a 1), .ref (a 2)])), (a 1, .inl (cI, 16, .inl (fun i => iZ (Z 1 i)))), (a 2, .inl (cI, 33600, .inl (fun i => iZ (Z (i / 2100 + 2) (i % 2100)))))]
abbrev tM (cI : ClassId) : List (ClassId × FieldType) := [(cI, .int)]
/-- one array of n ints -/
def wA (cI : ClassId) (b n : Nat) (f : Nat → Int) : va_W := [(b, .inl (cI, n, .inl (fun i => iZ (f i))))]
theorem wX_at (cI cO : ClassId) (a : Nat → Nat) (Z : ZZ) {j : Nat} (hj : j < 17) : (wX cI cO a Z)[j + 2]? = some (a (j + 2), .inl (cI, xln j, .inl (fun i => iZ (Z j i)))) := by
  show ((List.range 17).map _)[j]? = _
  rw [List.getElem?_map, List.getElem?_range hj]; rfl
theorem wX_set (cI cO : ClassId) (a : Nat → Nat) (Z : ZZ) {j : Nat} (hj : j < 17) {Z' : ZZ} {g : Nat → Int32} (hg : g = fun i => iZ (Z' j i)) (ho : ∀ j', j' ≠ j → Z' j' = Z j') : (wX cI cO a Z).set (j + 2) (a (j + 2), .inl (cI, xln j, .inl g)) = wX cI cO a Z' := by
  subst hg
  show _ :: _ :: ((List.range 17).map _).set j _ = _
  unfold wX
  congr 2
  apply List.ext_getElem?
  intro i
  by_cases hi : i < 17
  · by_cases hij : j = i
    · subst hij
      rw [List.getElem?_set_self (by simpa using hj), List.getElem?_map, List.getElem?_range hj]; rfl
    · rw [List.getElem?_set_ne hij, List.getElem?_map, List.getElem?_map, List.getElem?_range hi]
      have h9 := ho i (fun q => hij q.symm)
      simp only [Option.map_some, h9]
  · rw [List.getElem?_eq_none (by simpa using hi), List.getElem?_eq_none (by simpa using hi)]
theorem upd_iZ (f : Nat → Int) (n : Nat) (v : Int) : upd (fun i => iZ (f i)) n (iZ v) = fun i => iZ (if i = n then v else f i) := by
  funext i
  unfold upd
  split <;> rfl
theorem zup_row (Z : ZZ) (j i : Nat) (v : Int) : (fun i' => iZ (if i' = i then v else Z j i')) = fun i' => iZ (zup Z j i v j i') := by
  funext i'
  unfold zup
  by_cases h : i' = i
  · rw [if_pos h, if_pos ⟨rfl, h⟩]
  · rw [if_neg h, if_neg (fun q => h q.2)]
theorem zup_off (Z : ZZ) (j i : Nat) (v : Int) {j' : Nat} (h : j' ≠ j) : zup Z j i v j' = Z j' := by
  funext i'
  exact if_neg (fun q => h q.1)
section RX
variable {l : Launch} {D : va_G} {cI cO : ClassId} {a : Nat → Nat} {cc : ByteArray} {nL : Nat} {Ts : List Cond} {F km LL : Nat} {rt : Option FieldType} {post : Option Value → ZZ → Prop} {px : String → ZZ → Prop} {J : JT ZZ}
variable {Z : ZZ} {k pc : Nat} {lv : List (Nat × Value)} {rest : List Value}
theorem x_ald (hJ : IsJ l D (tX cI cO) (wX cI cO a) cc nL Ts RX0 F km LL rt post px J) {i : Int} {j : Nat} (hj : j < 17) (hi : 0 ≤ i ∧ i < xln j) (hdg : decode cc pc = .ok (.iaload, 1))
    (kk : J Z k (pc + 1) lv (.int (iZ (Z j i.toNat)) :: rest)) : J Z k pc lv (.int (iZ i) :: .ref (a (j + 2)) :: rest) := by
  obtain ⟨p, e, s, m, args, below, meth, c, A, ⟨hx, hb, hml, hown, hts⟩, hE, hM, hK, hA, rfl⟩ := hJ
  intro H locs ls hw hl
  have hln := xln_lt j
  refine va_iald hx hb hK hw.1 (j + 2) 0 (wX_at cI cO a Z hj) rfl (iZ_in hi hln) hdg ?_
  rw [iZ_clamp ⟨hi.1, by omega⟩]
  exact kk H locs ls hw hl
theorem x_ast (hJ : IsJ l D (tX cI cO) (wX cI cO a) cc nL Ts RX0 F km LL rt post px J) {i v : Int} {j : Nat} (hj : j < 17) (hi : 0 ≤ i ∧ i < xln j) (hdg : decode cc pc = .ok (.iastore, 1))
    (kk : J (zup Z j i.toNat v) k (pc + 1) lv rest) : J Z k pc lv (.int (iZ v) :: .int (iZ i) :: .ref (a (j + 2)) :: rest) := by
  obtain ⟨p, e, s, m, args, below, meth, c, A, ⟨hx, hb, hml, hown, hts⟩, hE, hM, hK, hA, rfl⟩ := hJ
  intro H locs ls hw hl
  have hln := xln_lt j
  refine va_iast hx hb hK hw.1 hw.2.1 hw.2.2 (j + 2) 0 (wX_at cI cO a Z hj) rfl (iZ_in hi hln) hdg (fun H1 locs1 hP hD hS => ?_)
  rw [iZ_clamp ⟨hi.1, by omega⟩, upd_iZ, zup_row, wX_set cI cO a Z hj rfl (fun j' h => zup_off Z j _ v h)] at hP hD
  exact kk H1 locs1 ls ⟨hP, hD, hS⟩ hl
theorem x_row (hJ : IsJ l D (tX cI cO) (wX cI cO a) cc nL Ts RX0 F km LL rt post px J) {i : Int} (hi : 0 ≤ i ∧ i < 12) (hdg : decode cc pc = .ok (.aaload, 1))
    (kk : J Z k (pc + 1) lv (.ref (a (i.toNat + 7)) :: rest)) : J Z k pc lv (.int (iZ i) :: .ref (a 1) :: rest) := by
  obtain ⟨p, e, s, m, args, below, meth, c, A, ⟨hx, hb, hml, hown, hts⟩, hE, hM, hK, hA, rfl⟩ := hJ
  intro H locs ls hw hl
  have hin : vp_in (iZ i) 12 := iZ_in hi (by decide)
  have hlt : (iZ i).toNatClampNeg < 12 := Nat.not_le.mp fun q => hin (Or.inr q)
  refine W.aald (v := .ref (a ((iZ i).toNatClampNeg + 7))) (ty := .array .int) hx hb (hw.1 1 _ rfl) ((hK.2 1 _ rfl).1 12 (fun j => va_rf (some (a (j + 7))))) rfl (fun q => by cases q) (by show ¬ (iZ i < 0 ∨ (arrV _ _ _).slots.size ≤ _); rw [arrV_size]; exact hin) (by show (arrV _ _ _).slots[_]? = _; rw [arrV_read _ _ hlt]; rfl) rfl rfl hdg ?_
  rw [iZ_clamp ⟨hi.1, by omega⟩]
  exact kk H locs ls hw hl
theorem x_words (hJ : IsJ l D (tX cI cO) (wX cI cO a) cc nL Ts RX0 F km LL rt post px J) (hin : ∀ w ∈ u_ws RX0 TX0 6, w ∈ Ts) (hf : Cond.fieldLink RX0 11 "WholeRegisters" "words" "[[I" ∈ Ts) (hdg : decode cc pc = .ok (.getfield 11, 3))
    (kk : J Z k (pc + 3) lv (.ref (a 1) :: rest)) : J Z k pc lv (.ref (a 0) :: rest) := by
  obtain ⟨p, e, s, m, args, below, meth, c, A, ⟨hx, hb, hml, hown, hts⟩, hE, hM, hK, hA, rfl⟩ := hJ
  intro H locs ls hw hl
  exact va_get (D := D) (ci := 0) (v := .ref (a 1)) (C := RX0) (T := TX0) (N := 6) hx hb hts hin hown hK hw.1 0 rfl rfl 0 (by decide) (hts _ hf) (fun _ h9 => h9) rfl hdg (kk H locs ls hw hl)
theorem x_counts (hJ : IsJ l D (tX cI cO) (wX cI cO a) cc nL Ts RX0 F km LL rt post px J) (hin : ∀ w ∈ u_ws RX0 TX0 6, w ∈ Ts) (hf : Cond.fieldLink RX0 14 "WholeRegisters" "counts" "[I" ∈ Ts) (hdg : decode cc pc = .ok (.getfield 14, 3))
    (kk : J Z k (pc + 3) lv (.ref (a 2) :: rest)) : J Z k pc lv (.ref (a 0) :: rest) := by
  obtain ⟨p, e, s, m, args, below, meth, c, A, ⟨hx, hb, hml, hown, hts⟩, hE, hM, hK, hA, rfl⟩ := hJ
  intro H locs ls hw hl
  exact va_get (D := D) (ci := 0) (v := .ref (a 2)) (C := RX0) (T := TX0) (N := 6) hx hb hts hin hown hK hw.1 0 rfl rfl 1 (by decide) (hts _ hf) (fun _ h9 => h9) rfl hdg (kk H locs ls hw hl)
theorem x_signs (hJ : IsJ l D (tX cI cO) (wX cI cO a) cc nL Ts RX0 F km LL rt post px J) (hin : ∀ w ∈ u_ws RX0 TX0 6, w ∈ Ts) (hf : Cond.fieldLink RX0 18 "WholeRegisters" "signs" "[I" ∈ Ts) (hdg : decode cc pc = .ok (.getfield 18, 3))
    (kk : J Z k (pc + 3) lv (.ref (a 3) :: rest)) : J Z k pc lv (.ref (a 0) :: rest) := by
  obtain ⟨p, e, s, m, args, below, meth, c, A, ⟨hx, hb, hml, hown, hts⟩, hE, hM, hK, hA, rfl⟩ := hJ
  intro H locs ls hw hl
  exact va_get (D := D) (ci := 0) (v := .ref (a 3)) (C := RX0) (T := TX0) (N := 6) hx hb hts hin hown hK hw.1 0 rfl rfl 2 (by decide) (hts _ hf) (fun _ h9 => h9) rfl hdg (kk H locs ls hw hl)
theorem x_result (hJ : IsJ l D (tX cI cO) (wX cI cO a) cc nL Ts RX0 F km LL rt post px J) (hin : ∀ w ∈ u_ws RX0 TX0 6, w ∈ Ts) (hf : Cond.fieldLink RX0 21 "WholeRegisters" "result" "[I" ∈ Ts) (hdg : decode cc pc = .ok (.getfield 21, 3))
    (kk : J Z k (pc + 3) lv (.ref (a 4) :: rest)) : J Z k pc lv (.ref (a 0) :: rest) := by
  obtain ⟨p, e, s, m, args, below, meth, c, A, ⟨hx, hb, hml, hown, hts⟩, hE, hM, hK, hA, rfl⟩ := hJ
  intro H locs ls hw hl
  exact va_get (D := D) (ci := 0) (v := .ref (a 4)) (C := RX0) (T := TX0) (N := 6) hx hb hts hin hown hK hw.1 0 rfl rfl 3 (by decide) (hts _ hf) (fun _ h9 => h9) rfl hdg (kk H locs ls hw hl)
theorem x_left (hJ : IsJ l D (tX cI cO) (wX cI cO a) cc nL Ts RX0 F km LL rt post px J) (hin : ∀ w ∈ u_ws RX0 TX0 6, w ∈ Ts) (hf : Cond.fieldLink RX0 24 "WholeRegisters" "left" "[I" ∈ Ts) (hdg : decode cc pc = .ok (.getfield 24, 3))
    (kk : J Z k (pc + 3) lv (.ref (a 5) :: rest)) : J Z k pc lv (.ref (a 0) :: rest) := by
  obtain ⟨p, e, s, m, args, below, meth, c, A, ⟨hx, hb, hml, hown, hts⟩, hE, hM, hK, hA, rfl⟩ := hJ
  intro H locs ls hw hl
  exact va_get (D := D) (ci := 0) (v := .ref (a 5)) (C := RX0) (T := TX0) (N := 6) hx hb hts hin hown hK hw.1 0 rfl rfl 4 (by decide) (hts _ hf) (fun _ h9 => h9) rfl hdg (kk H locs ls hw hl)
theorem x_divisor (hJ : IsJ l D (tX cI cO) (wX cI cO a) cc nL Ts RX0 F km LL rt post px J) (hin : ∀ w ∈ u_ws RX0 TX0 6, w ∈ Ts) (hf : Cond.fieldLink RX0 27 "WholeRegisters" "divisor" "[I" ∈ Ts) (hdg : decode cc pc = .ok (.getfield 27, 3))
    (kk : J Z k (pc + 3) lv (.ref (a 6) :: rest)) : J Z k pc lv (.ref (a 0) :: rest) := by
  obtain ⟨p, e, s, m, args, below, meth, c, A, ⟨hx, hb, hml, hown, hts⟩, hE, hM, hK, hA, rfl⟩ := hJ
  intro H locs ls hw hl
  exact va_get (D := D) (ci := 0) (v := .ref (a 6)) (C := RX0) (T := TX0) (N := 6) hx hb hts hin hown hK hw.1 0 rfl rfl 5 (by decide) (hts _ hf) (fun _ h9 => h9) rfl hdg (kk H locs ls hw hl)
end RX
/-- what a copy of n ints leaves: array j2 from dp on as array j1 from sp on -/
def zcp (Z : ZZ) (j1 sp j2 dp n : Nat) : ZZ := fun j i => if j = j2 ∧ dp ≤ i ∧ i < dp + n then Z j1 (sp + (i - dp)) else Z j i
theorem cpy_iZ (Z : ZZ) (j1 sp j2 dp n : Nat) : va_cpy (fun i => iZ (Z j1 i)) (fun i => iZ (Z j2 i)) sp dp n = fun i => iZ (zcp Z j1 sp j2 dp n j2 i) := by
  funext i
  unfold va_cpy zcp
  by_cases h : dp ≤ i ∧ i < dp + n
  · rw [if_pos h, if_pos ⟨rfl, h⟩]
  · rw [if_neg h, if_neg (fun q => h q.2)]
theorem zcp_off (Z : ZZ) (j1 sp j2 dp n : Nat) {j' : Nat} (h : j' ≠ j2) : zcp Z j1 sp j2 dp n j' = Z j' := by
  funext i'
  exact if_neg (fun q => h q.1)
section RY
variable {l : Launch} {D : va_G} {cI cO : ClassId} {a : Nat → Nat} {cc : ByteArray} {nL : Nat} {Ts : List Cond} {F km LL : Nat} {rt : Option FieldType} {post : Option Value → ZZ → Prop} {px : String → ZZ → Prop} {J : JT ZZ}
variable {Z : ZZ} {k pc : Nat} {lv : List (Nat × Value)} {rest : List Value}
theorem x_copy (hJ : IsJ l D (tX cI cO) (wX cI cO a) cc nL Ts RX0 F km LL rt post px J) {index : Nat} {sp dp n : Int} {j1 j2 : Nat} (hj1 : j1 < 17) (hj2 : j2 < 17) (h1 : 0 ≤ sp) (h2 : 0 ≤ dp) (h3 : 0 ≤ n) (h4 : sp + n ≤ xln j1) (h5 : dp + n ≤ xln j2)
    (w1 : Cond.methodLink RX0 index arraycopyName ∈ Ts) (w2 : Cond.native arraycopyName ∈ Ts) (w3 : Cond.static arraycopyName ∈ Ts) (w4 : Cond.initialized "java/lang/System" ∈ Ts) (hF : 1 ≤ F) (hL : (rest.map fun v => v.category).sum + (nativeFrameWords "java/lang/System" "arraycopy" 5 + 11) ≤ LL) (hdg : decode cc pc = .ok (.invokestatic index, 3))
    (kk : J (zcp Z j1 sp.toNat j2 dp.toNat n.toNat) k (pc + 3) lv rest) : J Z k pc lv (.int (iZ n) :: .int (iZ dp) :: .ref (a (j2 + 2)) :: .int (iZ sp) :: .ref (a (j1 + 2)) :: rest) := by
  obtain ⟨p, e, s, m, args, below, meth, c, A, ⟨hx, hb, hml, hown, hts⟩, hE, hM, hK, hA, rfl⟩ := hJ
  intro H locs ls hw hl
  have q1 := xln_lt j1
  have q2 := xln_lt j2
  have ng : ∀ z : Int, 0 ≤ z ∧ z < 2147483648 → ¬ iZ z < 0 := fun z hz q => by
    rw [iZ_0, iZ_lt ⟨by omega, by omega⟩ ⟨by omega, by omega⟩] at q; omega
  have c1 : (iZ sp).toNatClampNeg = sp.toNat := iZ_clamp ⟨h1, by omega⟩
  have c2 : (iZ dp).toNatClampNeg = dp.toNat := iZ_clamp ⟨h2, by omega⟩
  have c3 : (iZ n).toNatClampNeg = n.toNat := iZ_clamp ⟨h3, by omega⟩
  refine va_copyi hx hb (hml.trans hl.1.symm) hown (hts _ w1) (hts _ w2) (hts _ w3) (hts _ w4) hK hw.1 hw.2.1 hw.2.2 (j1 + 2) (j2 + 2) 0 0 (wX_at cI cO a Z hj1) (wX_at cI cO a Z hj2) rfl rfl rfl (ng sp ⟨h1, by omega⟩) (ng dp ⟨h2, by omega⟩) (ng n ⟨h3, by omega⟩) (by rw [c1, c3]; omega) (by rw [c2, c3]; omega) (fun i _ => rfl) hF hL hdg (fun H1 locs1 hP hD hS => ?_)
  rw [c1, c2, c3, cpy_iZ, wX_set cI cO a Z hj2 rfl (fun j' h => zcp_off Z j1 _ j2 _ _ h)] at hP hD
  exact kk H1 locs1 ls ⟨hP, hD, hS⟩ hl
end RY
/-! one array in a callee's hands -/
theorem va_P_one {D : va_G} {cl : List vw_C} {A : Nat → Prop} {p : Nat} {ws : va_W} {b : Nat} {e0 e : va_E} {H H1 : Heap} (h : va_P D cl ws H) (hD : va_D A ws) (hp : ws[p]? = some (b, e0)) (he : va_at D cl (b, e) H1) (oq : ∀ q : Nat, q < H.size → q ≠ b → H1[q]? = H[q]?) : va_P D cl (ws.set p (b, e)) H1 := by
  intro i q hq
  by_cases hi : p = i
  · subst hi
    rw [List.getElem?_set_self (List.getElem?_eq_some_iff.mp hp).1] at hq
    cases hq
    exact he
  · rw [List.getElem?_set_ne hi] at hq
    refine (h i q hq).kept (oq q.1 ((h i q hq).lt) (fun z => hi ?_))
    exact hD.1 p i _ _ hp hq z.symm
section RA
variable {σ : Type} {l : Launch} {D : va_G} {tys : List (ClassId × FieldType)} {wf : σ → va_W} {cc : ByteArray} {nL : Nat} {Ts : List Cond} {own : String} {F km LL : Nat} {rt : Option FieldType} {post : Option Value → σ → Prop} {px : String → σ → Prop} {J : JT σ}
variable {x : σ} {k pc : Nat} {lv : List (Nat × Value)} {rest : List Value}
theorem j_callA (hJ : IsJ l D tys wf cc nL Ts own F km LL rt post px J) {cI : ClassId} {b nA q0 t0 : Nat} {f : Nat → Int} {y : MethodName} {ws ws' : List Cond} {bytes : ByteArray} {maxL index n F1 L1 : Nat} {ret : Option FieldType} {As st : List Value} {po : Option Value → (Nat → Int) → Prop}
    (hM : Ct l D [(cI, .int)] (wA cI b nA) y ws F1 0 L1 As f po (fun _ _ => False)) (hst : st = As.reverse ++ rest) (hG : GoodIn Ts (va_wsS own index y ws)) (hw : ws = Cond.code y bytes maxL ret :: ws')
    (hd : y.cls ≠ "java/lang/invoke/MethodHandle" ∧ y.cls ≠ "java/lang/invoke/VarHandle" ∧ (parseMethodDescriptor y.desc).map (fun d => d.parameters.length) = some n) (hn : As.length = n)
    (hR : F1 + 1 ≤ F ∧ 8 + (maxL + 11) + L1 ≤ LL) (hrs : (rest.map fun v => v.category).sum ≤ 8) (hk : k ≤ km)
    (hq0 : (wf x)[q0]? = some (b, .inl (cI, nA, .inl (fun i => iZ (f i))))) (ht0 : tys[t0]? = some (cI, .int))
    (hdg : decode cc pc = .ok (.invokestatic index, 3))
    (kk : ∀ r f', po r f' → ∃ x', wf x' = (wf x).set q0 (b, .inl (cI, nA, .inl (fun i => iZ (f' i)))) ∧ J x' k (pc + 3) lv (r.toList ++ rest)) : J x k pc lv st := by
  subst hst
  obtain ⟨p, e, s, m, args, below, meth, c, A, ⟨hx, hb, hml, hown, hts⟩, hE, hMt, hK, hA, rfl⟩ := hJ
  intro H locs ls hww hl
  obtain ⟨hP, hD, hS⟩ := hww
  have hPc : va_P D vwCl (wA cI b nA f) H := hP.sub (ws' := wA cI b nA f) [q0] (by show [q0].filterMap _ = _; simp only [List.filterMap_cons, hq0, List.filterMap_nil]; rfl)
  have hDc : va_D A (wA cI b nA f) := hD.sub (ws' := wA cI b nA f) [q0] rfl (by show [(wf x)[q0]?] = _; rw [hq0]; rfl)
  have hKc : va_K D vwCl [(cI, .int)] s := hK.sub [t0] (by simp only [List.filterMap_cons, ht0, List.filterMap_nil])
  have hFc : ∀ q, va_A (wA cI b nA f) H.size q → A q := fun q h => h.elim (fun ⟨k9, e9, h9⟩ => hDc.2 k9 _ h9) (fun h9 => hA q (Nat.le_trans hS.1 h9))
  have hE1 : exZ A s H := hE.kept hS.2.1
  have hrun : vx_Run p l e (rmK F km LL) s m args below meth c H locs k (6 * k) 0 (6 * 0) (F0 m pc ls (As.reverse ++ rest)) rest _ _ _ := vx_runS (As := As) (rest := rest) (g := F0 m pc ls (As.reverse ++ rest)) ⟨hx, hb, hml, hown, hts⟩ (hM H.size) (va_cwS n hts hG hw rfl rfl hd hR)
    ⟨fun a U g mk q => by obtain ⟨q0, q1, qP, qK, qD, qE⟩ := q; exact ⟨q0, q1, qP, va_K.moved (u := U) (U := U.calling g mk a) (Vm.Alike.refl U.vm) qK, qD, exZ.warm (s := U) (U := U.calling g mk a) (State.WarmedH.refl U) qE⟩,
      fun U hU hW => ⟨rfl, by rw [hU], by rw [hU]; exact hPc, va_K.moved hW.alike hKc, hDc.weaken (fun _ _ _ _ => trivial), by rw [hU]; exact (hE1.narrow hFc).warm hW⟩⟩ rfl hn hl.1 rfl (lv_room hrs) hdg ⟨hk, by show 6 * k + 6 * 0 ≤ 6 * km; omega⟩
  intro T9 hT X
  rcases hrun T9 hT X with ⟨v, st₀, t, T', L, h0, X', hL, e1, e2, ⟨⟨r, u, hv, hp, hbb⟩, hF⟩, st⟩ | ⟨q, st₀, t, T', L, E, ce, h0, X', hL, e1, e2, ⟨u, hp, hbb, hF⟩, hce, hcv, hcl, st⟩
  · cases hv
    obtain ⟨k1, k2, k3⟩ := vx_keep h0 e1 hS (fun q _ h => hFc q h) hFc hL hF
    obtain ⟨x', hx', kk⟩ := kk v u hp
    have hb1 : va_at D vwCl (b, .inl (cI, nA, .inl (fun i => iZ (u i)))) T'.heap := by rw [e1]; exact hbb.1 0 _ rfl
    have hP' : va_P D vwCl (wf x') T'.heap := by
      rw [hx']
      refine va_P_one hP hD hq0 hb1 (fun q h1 h2 => k2 q h1 (fun z => ?_))
      rcases z with ⟨k9, e9, h9⟩ | z
      · rcases k9 with _ | k9
        · cases h9; exact h2 rfl
        · cases h9
      · omega
    have hD' : va_D A (wf x') := by rw [hx']; exact hD.set hq0
    obtain ⟨t2, a1, b1⟩ := kk T'.heap (locs ++ L) ls ⟨hP', hD', k3⟩ hl T' rfl X'
    exact ⟨t2, st t2 a1, b1⟩
  · exact hp.elim
end RA
section RM
variable {l : Launch} {D : va_G} {cI : ClassId} {a : Nat → Nat} {cc : ByteArray} {nL : Nat} {Ts : List Cond} {F km LL : Nat} {rt : Option FieldType} {post : Option Value → ZZ → Prop} {px : String → ZZ → Prop} {J : JT ZZ}
variable {Z : ZZ} {k pc : Nat} {lv : List (Nat × Value)} {rest : List Value}
theorem m_ald_sg (hJ : IsJ l D (tM cI) (wM cI a) cc nL Ts RX1 F km LL rt post px J) {i : Int} (hi : 0 ≤ i ∧ i < 16) (hdg : decode cc pc = .ok (.iaload, 1))
    (kk : J Z k (pc + 1) lv (.int (iZ (Z 1 i.toNat)) :: rest)) : J Z k pc lv (.int (iZ i) :: .ref (a 1) :: rest) := by
  obtain ⟨p, e, s, m, args, below, meth, c, A, ⟨hx, hb, hml, hown, hts⟩, hE, hM, hK, hA, rfl⟩ := hJ
  intro H locs ls hw hl
  refine va_iald hx hb hK hw.1 1 0 rfl rfl (iZ_in hi (by decide)) hdg ?_
  rw [iZ_clamp ⟨hi.1, by omega⟩]
  exact kk H locs ls hw hl
theorem m_ast_sg (hJ : IsJ l D (tM cI) (wM cI a) cc nL Ts RX1 F km LL rt post px J) {i v : Int} (hi : 0 ≤ i ∧ i < 16) (hdg : decode cc pc = .ok (.iastore, 1))
    (kk : J (zup Z 1 i.toNat v) k (pc + 1) lv rest) : J Z k pc lv (.int (iZ v) :: .int (iZ i) :: .ref (a 1) :: rest) := by
  obtain ⟨p, e, s, m, args, below, meth, c, A, ⟨hx, hb, hml, hown, hts⟩, hE, hM, hK, hA, rfl⟩ := hJ
  intro H locs ls hw hl
  have hset : (wM cI a Z).set 1 (a 1, .inl (cI, 16, .inl (fun i' => iZ (zup Z 1 i.toNat v 1 i')))) = wM cI a (zup Z 1 i.toNat v) := by
    unfold wM
    rw [zup_off Z 1 i.toNat v (j' := 0) (by decide), show (fun i' => iZ (zup Z 1 i.toNat v (i' / 2100 + 2) (i' % 2100))) = fun i' => iZ (Z (i' / 2100 + 2) (i' % 2100)) from funext fun i' => by rw [zup_off Z 1 i.toNat v (j' := i' / 2100 + 2) (by omega)]]
    rfl
  refine va_iast hx hb hK hw.1 hw.2.1 hw.2.2 1 0 rfl rfl (iZ_in hi (by decide)) hdg (fun H1 locs1 hP hD hS => ?_)
  rw [iZ_clamp ⟨hi.1, by omega⟩, upd_iZ, zup_row, hset] at hP hD
  exact kk H1 locs1 ls ⟨hP, hD, hS⟩ hl
theorem m_ald_dg (hJ : IsJ l D (tM cI) (wM cI a) cc nL Ts RX1 F km LL rt post px J) {i : Int} (hi : 0 ≤ i ∧ i < 33600) (hdg : decode cc pc = .ok (.iaload, 1))
    (kk : J Z k (pc + 1) lv (.int (iZ (Z (i.toNat / 2100 + 2) (i.toNat % 2100))) :: rest)) : J Z k pc lv (.int (iZ i) :: .ref (a 2) :: rest) := by
  obtain ⟨p, e, s, m, args, below, meth, c, A, ⟨hx, hb, hml, hown, hts⟩, hE, hM, hK, hA, rfl⟩ := hJ
  intro H locs ls hw hl
  refine va_iald hx hb hK hw.1 2 0 rfl rfl (iZ_in hi (by decide)) hdg ?_
  rw [iZ_clamp ⟨hi.1, by omega⟩]
  exact kk H locs ls hw hl
theorem m_ast_dg (hJ : IsJ l D (tM cI) (wM cI a) cc nL Ts RX1 F km LL rt post px J) {i v : Int} (hi : 0 ≤ i ∧ i < 33600) (hdg : decode cc pc = .ok (.iastore, 1))
    (kk : J (zup Z (i.toNat / 2100 + 2) (i.toNat % 2100) v) k (pc + 1) lv rest) : J Z k pc lv (.int (iZ v) :: .int (iZ i) :: .ref (a 2) :: rest) := by
  obtain ⟨p, e, s, m, args, below, meth, c, A, ⟨hx, hb, hml, hown, hts⟩, hE, hM, hK, hA, rfl⟩ := hJ
  intro H locs ls hw hl
  have hrow : (fun i' => iZ (if i' = i.toNat then v else Z (i' / 2100 + 2) (i' % 2100))) = fun i' => iZ (zup Z (i.toNat / 2100 + 2) (i.toNat % 2100) v (i' / 2100 + 2) (i' % 2100)) := by
    funext i'
    unfold zup
    by_cases h : i' = i.toNat
    · rw [if_pos h, if_pos ⟨by rw [h], by rw [h]⟩]
    · rw [if_neg h, if_neg (fun q => h (by omega))]
  have hset : (wM cI a Z).set 2 (a 2, .inl (cI, 33600, .inl (fun i' => iZ (zup Z (i.toNat / 2100 + 2) (i.toNat % 2100) v (i' / 2100 + 2) (i' % 2100))))) = wM cI a (zup Z (i.toNat / 2100 + 2) (i.toNat % 2100) v) := by
    unfold wM
    rw [zup_off Z (i.toNat / 2100 + 2) (i.toNat % 2100) v (j' := 0) (by omega), zup_off Z (i.toNat / 2100 + 2) (i.toNat % 2100) v (j' := 1) (by omega)]
    rfl
  refine va_iast hx hb hK hw.1 hw.2.1 hw.2.2 2 0 rfl rfl (iZ_in hi (by decide)) hdg (fun H1 locs1 hP hD hS => ?_)
  rw [iZ_clamp ⟨hi.1, by omega⟩] at hP hD
  rw [upd_iZ (fun i' => Z (i' / 2100 + 2) (i' % 2100)), hrow, hset] at hP hD
  exact kk H1 locs1 ls ⟨hP, hD, hS⟩ hl
theorem m_code (hJ : IsJ l D (tM cI) (wM cI a) cc nL Ts RX1 F km LL rt post px J) (hin : ∀ w ∈ u_ws RX1 TX1 3, w ∈ Ts) (hf : Cond.fieldLink RX1 17 "WholeRegistersModel" "code" "I" ∈ Ts) (hdg : decode cc pc = .ok (.getfield 17, 3))
    (kk : J Z k (pc + 3) lv (.int (iZ (Z 0 0)) :: rest)) : J Z k pc lv (.ref (a 0) :: rest) := by
  obtain ⟨p, e, s, m, args, below, meth, c, A, ⟨hx, hb, hml, hown, hts⟩, hE, hM, hK, hA, rfl⟩ := hJ
  intro H locs ls hw hl
  exact va_get (D := D) (ci := 1) (v := .int (iZ (Z 0 0))) (C := RX1) (T := TX1) (N := 3) hx hb hts hin hown hK hw.1 0 rfl rfl 0 (by decide) (hts _ hf) (fun _ h9 => h9) rfl hdg (kk H locs ls hw hl)
theorem m_sign (hJ : IsJ l D (tM cI) (wM cI a) cc nL Ts RX1 F km LL rt post px J) (hin : ∀ w ∈ u_ws RX1 TX1 3, w ∈ Ts) (hf : Cond.fieldLink RX1 7 "WholeRegistersModel" "sign" "[I" ∈ Ts) (hdg : decode cc pc = .ok (.getfield 7, 3))
    (kk : J Z k (pc + 3) lv (.ref (a 1) :: rest)) : J Z k pc lv (.ref (a 0) :: rest) := by
  obtain ⟨p, e, s, m, args, below, meth, c, A, ⟨hx, hb, hml, hown, hts⟩, hE, hM, hK, hA, rfl⟩ := hJ
  intro H locs ls hw hl
  exact va_get (D := D) (ci := 1) (v := .ref (a 1)) (C := RX1) (T := TX1) (N := 3) hx hb hts hin hown hK hw.1 0 rfl rfl 1 (by decide) (hts _ hf) (fun _ h9 => h9) rfl hdg (kk H locs ls hw hl)
theorem m_digits (hJ : IsJ l D (tM cI) (wM cI a) cc nL Ts RX1 F km LL rt post px J) (hin : ∀ w ∈ u_ws RX1 TX1 3, w ∈ Ts) (hf : Cond.fieldLink RX1 14 "WholeRegistersModel" "digits" "[I" ∈ Ts) (hdg : decode cc pc = .ok (.getfield 14, 3))
    (kk : J Z k (pc + 3) lv (.ref (a 2) :: rest)) : J Z k pc lv (.ref (a 0) :: rest) := by
  obtain ⟨p, e, s, m, args, below, meth, c, A, ⟨hx, hb, hml, hown, hts⟩, hE, hM, hK, hA, rfl⟩ := hJ
  intro H locs ls hw hl
  exact va_get (D := D) (ci := 1) (v := .ref (a 2)) (C := RX1) (T := TX1) (N := 3) hx hb hts hin hown hK hw.1 0 rfl rfl 2 (by decide) (hts _ hf) (fun _ h9 => h9) rfl hdg (kk H locs ls hw hl)
theorem m_putcode (hJ : IsJ l D (tM cI) (wM cI a) cc nL Ts RX1 F km LL rt post px J) {v : Int} (hin : ∀ w ∈ u_ws RX1 TX1 3, w ∈ Ts) (hf : Cond.fieldLink RX1 17 "WholeRegistersModel" "code" "I" ∈ Ts) (hdg : decode cc pc = .ok (.putfield 17, 3))
    (kk : J (zup Z 0 0 v) k (pc + 3) lv rest) : J Z k pc lv (.int (iZ v) :: .ref (a 0) :: rest) := by
  obtain ⟨p, e, s, m, args, below, meth, c, A, ⟨hx, hb, hml, hown, hts⟩, hE, hM, hK, hA, rfl⟩ := hJ
  intro H locs ls hw hl
  refine va_put (D := D) (ci := 1) (v := .int (iZ v)) (ty := .int) (C := RX1) (T := TX1) (N := 3) hx hb hts hin tyX1 tyX1_ok nmX1 hown hK hw.1 hw.2.1 hw.2.2 0 rfl rfl 0 (by decide) (hts _ hf) (fun _ h9 => h9) rfl (by decide +kernel) rfl rfl (Nat.le_of_ble_eq_true rfl) hdg (fun H1 locs1 hP hD hS => ?_)
  have hset : (wM cI a Z).set 0 (a 0, .inr (1, [.int (iZ (Z 0 0)), .ref (a 1), .ref (a 2)].set 0 (.int (iZ v)))) = wM cI a (zup Z 0 0 v) := by
    unfold wM
    rw [zup_eq, zup_off Z 0 0 v (j' := 1) (by decide), show (fun i' => iZ (zup Z 0 0 v (i' / 2100 + 2) (i' % 2100))) = fun i' => iZ (Z (i' / 2100 + 2) (i' % 2100)) from funext fun i' => by rw [zup_off Z 0 0 v (j' := i' / 2100 + 2) (by omega)]]
    rfl
  rw [hset] at hP hD
  exact kk H1 locs1 ls ⟨hP, hD, hS⟩ hl
end RM
/-- the first n of array j become f -/
def zrw (Z : ZZ) (j n : Nat) (f : Nat → Int) : ZZ := fun j' i => if j' = j ∧ i < n then f i else Z j' i
theorem zrw_0 (Z : ZZ) (j : Nat) (f : Nat → Int) : zrw Z j 0 f = Z := by
  funext j' i
  exact if_neg (fun h => by omega)
theorem zrw_succ (Z : ZZ) (j n : Nat) (f : Nat → Int) : zup (zrw Z j n f) j n (f n) = zrw Z j (n + 1) f := by
  funext j' i
  unfold zup zrw
  by_cases h : j' = j ∧ i = n
  · rw [if_pos h, if_pos ⟨h.1, by omega⟩, h.2]
  · rw [if_neg h]
    by_cases h2 : j' = j ∧ i < n
    · rw [if_pos h2, if_pos ⟨h2.1, by omega⟩]
    · rw [if_neg h2, if_neg (fun q => by rcases Nat.lt_or_ge i n with z | z; exact h2 ⟨q.1, z⟩; exact h ⟨q.1, by omega⟩)]
theorem zrw_in {Z : ZZ} {j n i : Nat} {f : Nat → Int} (h : i < n) : zrw Z j n f j i = f i := if_pos ⟨rfl, h⟩
theorem zrw_off {Z : ZZ} {j n : Nat} {f : Nat → Int} {j' : Nat} (h : j' ≠ j) : zrw Z j n f j' = Z j' := by
  funext i
  exact if_neg (fun q => h q.1)
theorem zrw_ge {Z : ZZ} {j n i : Nat} {f : Nat → Int} (h : n ≤ i) : zrw Z j n f j i = Z j i := if_neg (fun q => by omega)
theorem zrw_congr {Z : ZZ} {j n : Nat} {f g : Nat → Int} (h : ∀ i, i < n → f i = g i) : zrw Z j n f = zrw Z j n g := by
  funext j' i
  unfold zrw
  by_cases h2 : j' = j ∧ i < n
  · rw [if_pos h2, if_pos h2, h i h2.2]
  · rw [if_neg h2, if_neg h2]
end
section
theorem hdX0_add : yX0_add.cls = RX0 ∧ yX0_add.cls ≠ "java/lang/invoke/MethodHandle" ∧ yX0_add.cls ≠ "java/lang/invoke/VarHandle" ∧ (parseMethodDescriptor yX0_add.desc).map (fun d => d.parameters.length) = some 3 := by decide +kernel
theorem hsX0_add : yX0_add.cls ≠ "java/lang/invoke/MethodHandle" ∧ yX0_add.cls ≠ "java/lang/invoke/VarHandle" ∧ (parseMethodDescriptor yX0_add.desc).map (fun d => d.parameters.length) = some 3 := hdX0_add.2
theorem hdX0_addMultiple : yX0_addMultiple.cls = RX0 ∧ yX0_addMultiple.cls ≠ "java/lang/invoke/MethodHandle" ∧ yX0_addMultiple.cls ≠ "java/lang/invoke/VarHandle" ∧ (parseMethodDescriptor yX0_addMultiple.desc).map (fun d => d.parameters.length) = some 3 := by decide +kernel
theorem hsX0_addMultiple : yX0_addMultiple.cls ≠ "java/lang/invoke/MethodHandle" ∧ yX0_addMultiple.cls ≠ "java/lang/invoke/VarHandle" ∧ (parseMethodDescriptor yX0_addMultiple.desc).map (fun d => d.parameters.length) = some 3 := hdX0_addMultiple.2
theorem hdX0_addSizes : yX0_addSizes.cls = RX0 ∧ yX0_addSizes.cls ≠ "java/lang/invoke/MethodHandle" ∧ yX0_addSizes.cls ≠ "java/lang/invoke/VarHandle" ∧ (parseMethodDescriptor yX0_addSizes.desc).map (fun d => d.parameters.length) = some 2 := by decide +kernel
theorem hsX0_addSizes : yX0_addSizes.cls ≠ "java/lang/invoke/MethodHandle" ∧ yX0_addSizes.cls ≠ "java/lang/invoke/VarHandle" ∧ (parseMethodDescriptor yX0_addSizes.desc).map (fun d => d.parameters.length) = some 2 := hdX0_addSizes.2
theorem hdX0_append : yX0_append.cls = RX0 ∧ yX0_append.cls ≠ "java/lang/invoke/MethodHandle" ∧ yX0_append.cls ≠ "java/lang/invoke/VarHandle" ∧ (parseMethodDescriptor yX0_append.desc).map (fun d => d.parameters.length) = some 2 := by decide +kernel
theorem hsX0_append : yX0_append.cls ≠ "java/lang/invoke/MethodHandle" ∧ yX0_append.cls ≠ "java/lang/invoke/VarHandle" ∧ (parseMethodDescriptor yX0_append.desc).map (fun d => d.parameters.length) = some 2 := hdX0_append.2
theorem hdX0_bits : yX0_bits.cls = RX0 ∧ yX0_bits.cls ≠ "java/lang/invoke/MethodHandle" ∧ yX0_bits.cls ≠ "java/lang/invoke/VarHandle" ∧ (parseMethodDescriptor yX0_bits.desc).map (fun d => d.parameters.length) = some 1 := by decide +kernel
theorem hsX0_bits : yX0_bits.cls ≠ "java/lang/invoke/MethodHandle" ∧ yX0_bits.cls ≠ "java/lang/invoke/VarHandle" ∧ (parseMethodDescriptor yX0_bits.desc).map (fun d => d.parameters.length) = some 1 := hdX0_bits.2
theorem hdX0_bitsOf : yX0_bitsOf.cls = RX0 ∧ yX0_bitsOf.cls ≠ "java/lang/invoke/MethodHandle" ∧ yX0_bitsOf.cls ≠ "java/lang/invoke/VarHandle" ∧ (parseMethodDescriptor yX0_bitsOf.desc).map (fun d => d.parameters.length) = some 1 := by decide +kernel
theorem hsX0_bitsOf : yX0_bitsOf.cls ≠ "java/lang/invoke/MethodHandle" ∧ yX0_bitsOf.cls ≠ "java/lang/invoke/VarHandle" ∧ (parseMethodDescriptor yX0_bitsOf.desc).map (fun d => d.parameters.length) = some 1 := hdX0_bitsOf.2
theorem hdX0_bitsOfWord : yX0_bitsOfWord.cls = RX0 ∧ yX0_bitsOfWord.cls ≠ "java/lang/invoke/MethodHandle" ∧ yX0_bitsOfWord.cls ≠ "java/lang/invoke/VarHandle" ∧ (parseMethodDescriptor yX0_bitsOfWord.desc).map (fun d => d.parameters.length) = some 1 := by decide +kernel
theorem hsX0_bitsOfWord : yX0_bitsOfWord.cls ≠ "java/lang/invoke/MethodHandle" ∧ yX0_bitsOfWord.cls ≠ "java/lang/invoke/VarHandle" ∧ (parseMethodDescriptor yX0_bitsOfWord.desc).map (fun d => d.parameters.length) = some 1 := hdX0_bitsOfWord.2
theorem hdX0_checkRegister : yX0_checkRegister.cls = RX0 ∧ yX0_checkRegister.cls ≠ "java/lang/invoke/MethodHandle" ∧ yX0_checkRegister.cls ≠ "java/lang/invoke/VarHandle" ∧ (parseMethodDescriptor yX0_checkRegister.desc).map (fun d => d.parameters.length) = some 1 := by decide +kernel
theorem hsX0_checkRegister : yX0_checkRegister.cls ≠ "java/lang/invoke/MethodHandle" ∧ yX0_checkRegister.cls ≠ "java/lang/invoke/VarHandle" ∧ (parseMethodDescriptor yX0_checkRegister.desc).map (fun d => d.parameters.length) = some 1 := hdX0_checkRegister.2
theorem hdX0_checkResultFits : yX0_checkResultFits.cls = RX0 ∧ yX0_checkResultFits.cls ≠ "java/lang/invoke/MethodHandle" ∧ yX0_checkResultFits.cls ≠ "java/lang/invoke/VarHandle" ∧ (parseMethodDescriptor yX0_checkResultFits.desc).map (fun d => d.parameters.length) = some 0 := by decide +kernel
theorem hsX0_checkResultFits : yX0_checkResultFits.cls ≠ "java/lang/invoke/MethodHandle" ∧ yX0_checkResultFits.cls ≠ "java/lang/invoke/VarHandle" ∧ (parseMethodDescriptor yX0_checkResultFits.desc).map (fun d => d.parameters.length) = some 0 := hdX0_checkResultFits.2
theorem hdX0_compare : yX0_compare.cls = RX0 ∧ yX0_compare.cls ≠ "java/lang/invoke/MethodHandle" ∧ yX0_compare.cls ≠ "java/lang/invoke/VarHandle" ∧ (parseMethodDescriptor yX0_compare.desc).map (fun d => d.parameters.length) = some 2 := by decide +kernel
theorem hsX0_compare : yX0_compare.cls ≠ "java/lang/invoke/MethodHandle" ∧ yX0_compare.cls ≠ "java/lang/invoke/VarHandle" ∧ (parseMethodDescriptor yX0_compare.desc).map (fun d => d.parameters.length) = some 2 := hdX0_compare.2
theorem hdX0_compareSizes : yX0_compareSizes.cls = RX0 ∧ yX0_compareSizes.cls ≠ "java/lang/invoke/MethodHandle" ∧ yX0_compareSizes.cls ≠ "java/lang/invoke/VarHandle" ∧ (parseMethodDescriptor yX0_compareSizes.desc).map (fun d => d.parameters.length) = some 2 := by decide +kernel
theorem hsX0_compareSizes : yX0_compareSizes.cls ≠ "java/lang/invoke/MethodHandle" ∧ yX0_compareSizes.cls ≠ "java/lang/invoke/VarHandle" ∧ (parseMethodDescriptor yX0_compareSizes.desc).map (fun d => d.parameters.length) = some 2 := hdX0_compareSizes.2
theorem hdX0_copy : yX0_copy.cls = RX0 ∧ yX0_copy.cls ≠ "java/lang/invoke/MethodHandle" ∧ yX0_copy.cls ≠ "java/lang/invoke/VarHandle" ∧ (parseMethodDescriptor yX0_copy.desc).map (fun d => d.parameters.length) = some 2 := by decide +kernel
theorem hsX0_copy : yX0_copy.cls ≠ "java/lang/invoke/MethodHandle" ∧ yX0_copy.cls ≠ "java/lang/invoke/VarHandle" ∧ (parseMethodDescriptor yX0_copy.desc).map (fun d => d.parameters.length) = some 2 := hdX0_copy.2
theorem hdX0_divide : yX0_divide.cls = RX0 ∧ yX0_divide.cls ≠ "java/lang/invoke/MethodHandle" ∧ yX0_divide.cls ≠ "java/lang/invoke/VarHandle" ∧ (parseMethodDescriptor yX0_divide.desc).map (fun d => d.parameters.length) = some 4 := by decide +kernel
theorem hsX0_divide : yX0_divide.cls ≠ "java/lang/invoke/MethodHandle" ∧ yX0_divide.cls ≠ "java/lang/invoke/VarHandle" ∧ (parseMethodDescriptor yX0_divide.desc).map (fun d => d.parameters.length) = some 4 := hdX0_divide.2
theorem hdX0_divideSizes : yX0_divideSizes.cls = RX0 ∧ yX0_divideSizes.cls ≠ "java/lang/invoke/MethodHandle" ∧ yX0_divideSizes.cls ≠ "java/lang/invoke/VarHandle" ∧ (parseMethodDescriptor yX0_divideSizes.desc).map (fun d => d.parameters.length) = some 3 := by decide +kernel
theorem hsX0_divideSizes : yX0_divideSizes.cls ≠ "java/lang/invoke/MethodHandle" ∧ yX0_divideSizes.cls ≠ "java/lang/invoke/VarHandle" ∧ (parseMethodDescriptor yX0_divideSizes.desc).map (fun d => d.parameters.length) = some 3 := hdX0_divideSizes.2
theorem hdX0_giveBack : yX0_giveBack.cls = RX0 ∧ yX0_giveBack.cls ≠ "java/lang/invoke/MethodHandle" ∧ yX0_giveBack.cls ≠ "java/lang/invoke/VarHandle" ∧ (parseMethodDescriptor yX0_giveBack.desc).map (fun d => d.parameters.length) = some 4 := by decide +kernel
theorem hsX0_giveBack : yX0_giveBack.cls ≠ "java/lang/invoke/MethodHandle" ∧ yX0_giveBack.cls ≠ "java/lang/invoke/VarHandle" ∧ (parseMethodDescriptor yX0_giveBack.desc).map (fun d => d.parameters.length) = some 4 := hdX0_giveBack.2
theorem hdX0_guessDigit : yX0_guessDigit.cls = RX0 ∧ yX0_guessDigit.cls ≠ "java/lang/invoke/MethodHandle" ∧ yX0_guessDigit.cls ≠ "java/lang/invoke/VarHandle" ∧ (parseMethodDescriptor yX0_guessDigit.desc).map (fun d => d.parameters.length) = some 2 := by decide +kernel
theorem hsX0_guessDigit : yX0_guessDigit.cls ≠ "java/lang/invoke/MethodHandle" ∧ yX0_guessDigit.cls ≠ "java/lang/invoke/VarHandle" ∧ (parseMethodDescriptor yX0_guessDigit.desc).map (fun d => d.parameters.length) = some 2 := hdX0_guessDigit.2
theorem hdX0_keepResult : yX0_keepResult.cls = RX0 ∧ yX0_keepResult.cls ≠ "java/lang/invoke/MethodHandle" ∧ yX0_keepResult.cls ≠ "java/lang/invoke/VarHandle" ∧ (parseMethodDescriptor yX0_keepResult.desc).map (fun d => d.parameters.length) = some 2 := by decide +kernel
theorem hsX0_keepResult : yX0_keepResult.cls ≠ "java/lang/invoke/MethodHandle" ∧ yX0_keepResult.cls ≠ "java/lang/invoke/VarHandle" ∧ (parseMethodDescriptor yX0_keepResult.desc).map (fun d => d.parameters.length) = some 2 := hdX0_keepResult.2
theorem hdX0_moveDown : yX0_moveDown.cls = RX0 ∧ yX0_moveDown.cls ≠ "java/lang/invoke/MethodHandle" ∧ yX0_moveDown.cls ≠ "java/lang/invoke/VarHandle" ∧ (parseMethodDescriptor yX0_moveDown.desc).map (fun d => d.parameters.length) = some 3 := by decide +kernel
theorem hsX0_moveDown : yX0_moveDown.cls ≠ "java/lang/invoke/MethodHandle" ∧ yX0_moveDown.cls ≠ "java/lang/invoke/VarHandle" ∧ (parseMethodDescriptor yX0_moveDown.desc).map (fun d => d.parameters.length) = some 3 := hdX0_moveDown.2
theorem hdX0_moveUp : yX0_moveUp.cls = RX0 ∧ yX0_moveUp.cls ≠ "java/lang/invoke/MethodHandle" ∧ yX0_moveUp.cls ≠ "java/lang/invoke/VarHandle" ∧ (parseMethodDescriptor yX0_moveUp.desc).map (fun d => d.parameters.length) = some 3 := by decide +kernel
theorem hsX0_moveUp : yX0_moveUp.cls ≠ "java/lang/invoke/MethodHandle" ∧ yX0_moveUp.cls ≠ "java/lang/invoke/VarHandle" ∧ (parseMethodDescriptor yX0_moveUp.desc).map (fun d => d.parameters.length) = some 3 := hdX0_moveUp.2
theorem hdX0_multiply : yX0_multiply.cls = RX0 ∧ yX0_multiply.cls ≠ "java/lang/invoke/MethodHandle" ∧ yX0_multiply.cls ≠ "java/lang/invoke/VarHandle" ∧ (parseMethodDescriptor yX0_multiply.desc).map (fun d => d.parameters.length) = some 3 := by decide +kernel
theorem hsX0_multiply : yX0_multiply.cls ≠ "java/lang/invoke/MethodHandle" ∧ yX0_multiply.cls ≠ "java/lang/invoke/VarHandle" ∧ (parseMethodDescriptor yX0_multiply.desc).map (fun d => d.parameters.length) = some 3 := hdX0_multiply.2
theorem hdX0_multiplySizes : yX0_multiplySizes.cls = RX0 ∧ yX0_multiplySizes.cls ≠ "java/lang/invoke/MethodHandle" ∧ yX0_multiplySizes.cls ≠ "java/lang/invoke/VarHandle" ∧ (parseMethodDescriptor yX0_multiplySizes.desc).map (fun d => d.parameters.length) = some 2 := by decide +kernel
theorem hsX0_multiplySizes : yX0_multiplySizes.cls ≠ "java/lang/invoke/MethodHandle" ∧ yX0_multiplySizes.cls ≠ "java/lang/invoke/VarHandle" ∧ (parseMethodDescriptor yX0_multiplySizes.desc).map (fun d => d.parameters.length) = some 2 := hdX0_multiplySizes.2
theorem hdX0_negate : yX0_negate.cls = RX0 ∧ yX0_negate.cls ≠ "java/lang/invoke/MethodHandle" ∧ yX0_negate.cls ≠ "java/lang/invoke/VarHandle" ∧ (parseMethodDescriptor yX0_negate.desc).map (fun d => d.parameters.length) = some 1 := by decide +kernel
theorem hsX0_negate : yX0_negate.cls ≠ "java/lang/invoke/MethodHandle" ∧ yX0_negate.cls ≠ "java/lang/invoke/VarHandle" ∧ (parseMethodDescriptor yX0_negate.desc).map (fun d => d.parameters.length) = some 1 := hdX0_negate.2
theorem hdX0_orderOfSizes : yX0_orderOfSizes.cls = RX0 ∧ yX0_orderOfSizes.cls ≠ "java/lang/invoke/MethodHandle" ∧ yX0_orderOfSizes.cls ≠ "java/lang/invoke/VarHandle" ∧ (parseMethodDescriptor yX0_orderOfSizes.desc).map (fun d => d.parameters.length) = some 2 := by decide +kernel
theorem hsX0_orderOfSizes : yX0_orderOfSizes.cls ≠ "java/lang/invoke/MethodHandle" ∧ yX0_orderOfSizes.cls ≠ "java/lang/invoke/VarHandle" ∧ (parseMethodDescriptor yX0_orderOfSizes.desc).map (fun d => d.parameters.length) = some 2 := hdX0_orderOfSizes.2
theorem hdX0_pairOf : yX0_pairOf.cls = RX0 ∧ yX0_pairOf.cls ≠ "java/lang/invoke/MethodHandle" ∧ yX0_pairOf.cls ≠ "java/lang/invoke/VarHandle" ∧ (parseMethodDescriptor yX0_pairOf.desc).map (fun d => d.parameters.length) = some 2 := by decide +kernel
theorem hsX0_pairOf : yX0_pairOf.cls ≠ "java/lang/invoke/MethodHandle" ∧ yX0_pairOf.cls ≠ "java/lang/invoke/VarHandle" ∧ (parseMethodDescriptor yX0_pairOf.desc).map (fun d => d.parameters.length) = some 2 := hdX0_pairOf.2
theorem hdX0_putSum : yX0_putSum.cls = RX0 ∧ yX0_putSum.cls ≠ "java/lang/invoke/MethodHandle" ∧ yX0_putSum.cls ≠ "java/lang/invoke/VarHandle" ∧ (parseMethodDescriptor yX0_putSum.desc).map (fun d => d.parameters.length) = some 4 := by decide +kernel
theorem hsX0_putSum : yX0_putSum.cls ≠ "java/lang/invoke/MethodHandle" ∧ yX0_putSum.cls ≠ "java/lang/invoke/VarHandle" ∧ (parseMethodDescriptor yX0_putSum.desc).map (fun d => d.parameters.length) = some 4 := hdX0_putSum.2
theorem hdX0_quotientOfPair : yX0_quotientOfPair.cls = RX0 ∧ yX0_quotientOfPair.cls ≠ "java/lang/invoke/MethodHandle" ∧ yX0_quotientOfPair.cls ≠ "java/lang/invoke/VarHandle" ∧ (parseMethodDescriptor yX0_quotientOfPair.desc).map (fun d => d.parameters.length) = some 2 := by decide +kernel
theorem hsX0_quotientOfPair : yX0_quotientOfPair.cls ≠ "java/lang/invoke/MethodHandle" ∧ yX0_quotientOfPair.cls ≠ "java/lang/invoke/VarHandle" ∧ (parseMethodDescriptor yX0_quotientOfPair.desc).map (fun d => d.parameters.length) = some 2 := hdX0_quotientOfPair.2
theorem hdX0_residue : yX0_residue.cls = RX0 ∧ yX0_residue.cls ≠ "java/lang/invoke/MethodHandle" ∧ yX0_residue.cls ≠ "java/lang/invoke/VarHandle" ∧ (parseMethodDescriptor yX0_residue.desc).map (fun d => d.parameters.length) = some 2 := by decide +kernel
theorem hsX0_residue : yX0_residue.cls ≠ "java/lang/invoke/MethodHandle" ∧ yX0_residue.cls ≠ "java/lang/invoke/VarHandle" ∧ (parseMethodDescriptor yX0_residue.desc).map (fun d => d.parameters.length) = some 2 := hdX0_residue.2
theorem hdX0_root : yX0_root.cls = RX0 ∧ yX0_root.cls ≠ "java/lang/invoke/MethodHandle" ∧ yX0_root.cls ≠ "java/lang/invoke/VarHandle" ∧ (parseMethodDescriptor yX0_root.desc).map (fun d => d.parameters.length) = some 2 := by decide +kernel
theorem hsX0_root : yX0_root.cls ≠ "java/lang/invoke/MethodHandle" ∧ yX0_root.cls ≠ "java/lang/invoke/VarHandle" ∧ (parseMethodDescriptor yX0_root.desc).map (fun d => d.parameters.length) = some 2 := hdX0_root.2
theorem hdX0_rootOfPair : yX0_rootOfPair.cls = RX0 ∧ yX0_rootOfPair.cls ≠ "java/lang/invoke/MethodHandle" ∧ yX0_rootOfPair.cls ≠ "java/lang/invoke/VarHandle" ∧ (parseMethodDescriptor yX0_rootOfPair.desc).map (fun d => d.parameters.length) = some 1 := by decide +kernel
theorem hsX0_rootOfPair : yX0_rootOfPair.cls ≠ "java/lang/invoke/MethodHandle" ∧ yX0_rootOfPair.cls ≠ "java/lang/invoke/VarHandle" ∧ (parseMethodDescriptor yX0_rootOfPair.desc).map (fun d => d.parameters.length) = some 1 := hdX0_rootOfPair.2
theorem hdX0_set : yX0_set.cls = RX0 ∧ yX0_set.cls ≠ "java/lang/invoke/MethodHandle" ∧ yX0_set.cls ≠ "java/lang/invoke/VarHandle" ∧ (parseMethodDescriptor yX0_set.desc).map (fun d => d.parameters.length) = some 2 := by decide +kernel
theorem hsX0_set : yX0_set.cls ≠ "java/lang/invoke/MethodHandle" ∧ yX0_set.cls ≠ "java/lang/invoke/VarHandle" ∧ (parseMethodDescriptor yX0_set.desc).map (fun d => d.parameters.length) = some 2 := hdX0_set.2
theorem hdX0_sign : yX0_sign.cls = RX0 ∧ yX0_sign.cls ≠ "java/lang/invoke/MethodHandle" ∧ yX0_sign.cls ≠ "java/lang/invoke/VarHandle" ∧ (parseMethodDescriptor yX0_sign.desc).map (fun d => d.parameters.length) = some 1 := by decide +kernel
theorem hsX0_sign : yX0_sign.cls ≠ "java/lang/invoke/MethodHandle" ∧ yX0_sign.cls ≠ "java/lang/invoke/VarHandle" ∧ (parseMethodDescriptor yX0_sign.desc).map (fun d => d.parameters.length) = some 1 := hdX0_sign.2
theorem hdX0_subtract : yX0_subtract.cls = RX0 ∧ yX0_subtract.cls ≠ "java/lang/invoke/MethodHandle" ∧ yX0_subtract.cls ≠ "java/lang/invoke/VarHandle" ∧ (parseMethodDescriptor yX0_subtract.desc).map (fun d => d.parameters.length) = some 3 := by decide +kernel
theorem hsX0_subtract : yX0_subtract.cls ≠ "java/lang/invoke/MethodHandle" ∧ yX0_subtract.cls ≠ "java/lang/invoke/VarHandle" ∧ (parseMethodDescriptor yX0_subtract.desc).map (fun d => d.parameters.length) = some 3 := hdX0_subtract.2
theorem hdX0_subtractSizes : yX0_subtractSizes.cls = RX0 ∧ yX0_subtractSizes.cls ≠ "java/lang/invoke/MethodHandle" ∧ yX0_subtractSizes.cls ≠ "java/lang/invoke/VarHandle" ∧ (parseMethodDescriptor yX0_subtractSizes.desc).map (fun d => d.parameters.length) = some 2 := by decide +kernel
theorem hsX0_subtractSizes : yX0_subtractSizes.cls ≠ "java/lang/invoke/MethodHandle" ∧ yX0_subtractSizes.cls ≠ "java/lang/invoke/VarHandle" ∧ (parseMethodDescriptor yX0_subtractSizes.desc).map (fun d => d.parameters.length) = some 2 := hdX0_subtractSizes.2
theorem hdX0_takeFirstRootDigit : yX0_takeFirstRootDigit.cls = RX0 ∧ yX0_takeFirstRootDigit.cls ≠ "java/lang/invoke/MethodHandle" ∧ yX0_takeFirstRootDigit.cls ≠ "java/lang/invoke/VarHandle" ∧ (parseMethodDescriptor yX0_takeFirstRootDigit.desc).map (fun d => d.parameters.length) = some 1 := by decide +kernel
theorem hsX0_takeFirstRootDigit : yX0_takeFirstRootDigit.cls ≠ "java/lang/invoke/MethodHandle" ∧ yX0_takeFirstRootDigit.cls ≠ "java/lang/invoke/VarHandle" ∧ (parseMethodDescriptor yX0_takeFirstRootDigit.desc).map (fun d => d.parameters.length) = some 1 := hdX0_takeFirstRootDigit.2
theorem hdX0_takeMultiple : yX0_takeMultiple.cls = RX0 ∧ yX0_takeMultiple.cls ≠ "java/lang/invoke/MethodHandle" ∧ yX0_takeMultiple.cls ≠ "java/lang/invoke/VarHandle" ∧ (parseMethodDescriptor yX0_takeMultiple.desc).map (fun d => d.parameters.length) = some 4 := by decide +kernel
theorem hsX0_takeMultiple : yX0_takeMultiple.cls ≠ "java/lang/invoke/MethodHandle" ∧ yX0_takeMultiple.cls ≠ "java/lang/invoke/VarHandle" ∧ (parseMethodDescriptor yX0_takeMultiple.desc).map (fun d => d.parameters.length) = some 4 := hdX0_takeMultiple.2
theorem hdX0_takeQuotientDigit : yX0_takeQuotientDigit.cls = RX0 ∧ yX0_takeQuotientDigit.cls ≠ "java/lang/invoke/MethodHandle" ∧ yX0_takeQuotientDigit.cls ≠ "java/lang/invoke/VarHandle" ∧ (parseMethodDescriptor yX0_takeQuotientDigit.desc).map (fun d => d.parameters.length) = some 2 := by decide +kernel
theorem hsX0_takeQuotientDigit : yX0_takeQuotientDigit.cls ≠ "java/lang/invoke/MethodHandle" ∧ yX0_takeQuotientDigit.cls ≠ "java/lang/invoke/VarHandle" ∧ (parseMethodDescriptor yX0_takeQuotientDigit.desc).map (fun d => d.parameters.length) = some 2 := hdX0_takeQuotientDigit.2
theorem hdX0_takeRootDigit : yX0_takeRootDigit.cls = RX0 ∧ yX0_takeRootDigit.cls ≠ "java/lang/invoke/MethodHandle" ∧ yX0_takeRootDigit.cls ≠ "java/lang/invoke/VarHandle" ∧ (parseMethodDescriptor yX0_takeRootDigit.desc).map (fun d => d.parameters.length) = some 2 := by decide +kernel
theorem hsX0_takeRootDigit : yX0_takeRootDigit.cls ≠ "java/lang/invoke/MethodHandle" ∧ yX0_takeRootDigit.cls ≠ "java/lang/invoke/VarHandle" ∧ (parseMethodDescriptor yX0_takeRootDigit.desc).map (fun d => d.parameters.length) = some 2 := hdX0_takeRootDigit.2
theorem hdX0_takeRootOfSize : yX0_takeRootOfSize.cls = RX0 ∧ yX0_takeRootOfSize.cls ≠ "java/lang/invoke/MethodHandle" ∧ yX0_takeRootOfSize.cls ≠ "java/lang/invoke/VarHandle" ∧ (parseMethodDescriptor yX0_takeRootOfSize.desc).map (fun d => d.parameters.length) = some 1 := by decide +kernel
theorem hsX0_takeRootOfSize : yX0_takeRootOfSize.cls ≠ "java/lang/invoke/MethodHandle" ∧ yX0_takeRootOfSize.cls ≠ "java/lang/invoke/VarHandle" ∧ (parseMethodDescriptor yX0_takeRootOfSize.desc).map (fun d => d.parameters.length) = some 1 := hdX0_takeRootOfSize.2
theorem hdX0_word : yX0_word.cls = RX0 ∧ yX0_word.cls ≠ "java/lang/invoke/MethodHandle" ∧ yX0_word.cls ≠ "java/lang/invoke/VarHandle" ∧ (parseMethodDescriptor yX0_word.desc).map (fun d => d.parameters.length) = some 2 := by decide +kernel
theorem hsX0_word : yX0_word.cls ≠ "java/lang/invoke/MethodHandle" ∧ yX0_word.cls ≠ "java/lang/invoke/VarHandle" ∧ (parseMethodDescriptor yX0_word.desc).map (fun d => d.parameters.length) = some 2 := hdX0_word.2
theorem hdX1_add : yX1_add.cls = RX1 ∧ yX1_add.cls ≠ "java/lang/invoke/MethodHandle" ∧ yX1_add.cls ≠ "java/lang/invoke/VarHandle" ∧ (parseMethodDescriptor yX1_add.desc).map (fun d => d.parameters.length) = some 3 := by decide +kernel
theorem hsX1_add : yX1_add.cls ≠ "java/lang/invoke/MethodHandle" ∧ yX1_add.cls ≠ "java/lang/invoke/VarHandle" ∧ (parseMethodDescriptor yX1_add.desc).map (fun d => d.parameters.length) = some 3 := hdX1_add.2
theorem hdX1_append : yX1_append.cls = RX1 ∧ yX1_append.cls ≠ "java/lang/invoke/MethodHandle" ∧ yX1_append.cls ≠ "java/lang/invoke/VarHandle" ∧ (parseMethodDescriptor yX1_append.desc).map (fun d => d.parameters.length) = some 2 := by decide +kernel
theorem hsX1_append : yX1_append.cls ≠ "java/lang/invoke/MethodHandle" ∧ yX1_append.cls ≠ "java/lang/invoke/VarHandle" ∧ (parseMethodDescriptor yX1_append.desc).map (fun d => d.parameters.length) = some 2 := hdX1_append.2
theorem hdX1_bit : yX1_bit.cls = RX1 ∧ yX1_bit.cls ≠ "java/lang/invoke/MethodHandle" ∧ yX1_bit.cls ≠ "java/lang/invoke/VarHandle" ∧ (parseMethodDescriptor yX1_bit.desc).map (fun d => d.parameters.length) = some 2 := by decide +kernel
theorem hsX1_bit : yX1_bit.cls ≠ "java/lang/invoke/MethodHandle" ∧ yX1_bit.cls ≠ "java/lang/invoke/VarHandle" ∧ (parseMethodDescriptor yX1_bit.desc).map (fun d => d.parameters.length) = some 2 := hdX1_bit.2
theorem hdX1_bits : yX1_bits.cls = RX1 ∧ yX1_bits.cls ≠ "java/lang/invoke/MethodHandle" ∧ yX1_bits.cls ≠ "java/lang/invoke/VarHandle" ∧ (parseMethodDescriptor yX1_bits.desc).map (fun d => d.parameters.length) = some 1 := by decide +kernel
theorem hsX1_bits : yX1_bits.cls ≠ "java/lang/invoke/MethodHandle" ∧ yX1_bits.cls ≠ "java/lang/invoke/VarHandle" ∧ (parseMethodDescriptor yX1_bits.desc).map (fun d => d.parameters.length) = some 1 := hdX1_bits.2
theorem hdX1_bitsOf : yX1_bitsOf.cls = RX1 ∧ yX1_bitsOf.cls ≠ "java/lang/invoke/MethodHandle" ∧ yX1_bitsOf.cls ≠ "java/lang/invoke/VarHandle" ∧ (parseMethodDescriptor yX1_bitsOf.desc).map (fun d => d.parameters.length) = some 1 := by decide +kernel
theorem hsX1_bitsOf : yX1_bitsOf.cls ≠ "java/lang/invoke/MethodHandle" ∧ yX1_bitsOf.cls ≠ "java/lang/invoke/VarHandle" ∧ (parseMethodDescriptor yX1_bitsOf.desc).map (fun d => d.parameters.length) = some 1 := hdX1_bitsOf.2
theorem hdX1_clear : yX1_clear.cls = RX1 ∧ yX1_clear.cls ≠ "java/lang/invoke/MethodHandle" ∧ yX1_clear.cls ≠ "java/lang/invoke/VarHandle" ∧ (parseMethodDescriptor yX1_clear.desc).map (fun d => d.parameters.length) = some 1 := by decide +kernel
theorem hsX1_clear : yX1_clear.cls ≠ "java/lang/invoke/MethodHandle" ∧ yX1_clear.cls ≠ "java/lang/invoke/VarHandle" ∧ (parseMethodDescriptor yX1_clear.desc).map (fun d => d.parameters.length) = some 1 := hdX1_clear.2
theorem hdX1_compare : yX1_compare.cls = RX1 ∧ yX1_compare.cls ≠ "java/lang/invoke/MethodHandle" ∧ yX1_compare.cls ≠ "java/lang/invoke/VarHandle" ∧ (parseMethodDescriptor yX1_compare.desc).map (fun d => d.parameters.length) = some 2 := by decide +kernel
theorem hsX1_compare : yX1_compare.cls ≠ "java/lang/invoke/MethodHandle" ∧ yX1_compare.cls ≠ "java/lang/invoke/VarHandle" ∧ (parseMethodDescriptor yX1_compare.desc).map (fun d => d.parameters.length) = some 2 := hdX1_compare.2
theorem hdX1_compareSizes : yX1_compareSizes.cls = RX1 ∧ yX1_compareSizes.cls ≠ "java/lang/invoke/MethodHandle" ∧ yX1_compareSizes.cls ≠ "java/lang/invoke/VarHandle" ∧ (parseMethodDescriptor yX1_compareSizes.desc).map (fun d => d.parameters.length) = some 2 := by decide +kernel
theorem hsX1_compareSizes : yX1_compareSizes.cls ≠ "java/lang/invoke/MethodHandle" ∧ yX1_compareSizes.cls ≠ "java/lang/invoke/VarHandle" ∧ (parseMethodDescriptor yX1_compareSizes.desc).map (fun d => d.parameters.length) = some 2 := hdX1_compareSizes.2
theorem hdX1_copy : yX1_copy.cls = RX1 ∧ yX1_copy.cls ≠ "java/lang/invoke/MethodHandle" ∧ yX1_copy.cls ≠ "java/lang/invoke/VarHandle" ∧ (parseMethodDescriptor yX1_copy.desc).map (fun d => d.parameters.length) = some 2 := by decide +kernel
theorem hsX1_copy : yX1_copy.cls ≠ "java/lang/invoke/MethodHandle" ∧ yX1_copy.cls ≠ "java/lang/invoke/VarHandle" ∧ (parseMethodDescriptor yX1_copy.desc).map (fun d => d.parameters.length) = some 2 := hdX1_copy.2
theorem hdX1_divide : yX1_divide.cls = RX1 ∧ yX1_divide.cls ≠ "java/lang/invoke/MethodHandle" ∧ yX1_divide.cls ≠ "java/lang/invoke/VarHandle" ∧ (parseMethodDescriptor yX1_divide.desc).map (fun d => d.parameters.length) = some 4 := by decide +kernel
theorem hsX1_divide : yX1_divide.cls ≠ "java/lang/invoke/MethodHandle" ∧ yX1_divide.cls ≠ "java/lang/invoke/VarHandle" ∧ (parseMethodDescriptor yX1_divide.desc).map (fun d => d.parameters.length) = some 4 := hdX1_divide.2
theorem hdX1_get : yX1_get.cls = RX1 ∧ yX1_get.cls ≠ "java/lang/invoke/MethodHandle" ∧ yX1_get.cls ≠ "java/lang/invoke/VarHandle" ∧ (parseMethodDescriptor yX1_get.desc).map (fun d => d.parameters.length) = some 2 := by decide +kernel
theorem hsX1_get : yX1_get.cls ≠ "java/lang/invoke/MethodHandle" ∧ yX1_get.cls ≠ "java/lang/invoke/VarHandle" ∧ (parseMethodDescriptor yX1_get.desc).map (fun d => d.parameters.length) = some 2 := hdX1_get.2
theorem hdX1_give : yX1_give.cls = RX1 ∧ yX1_give.cls ≠ "java/lang/invoke/MethodHandle" ∧ yX1_give.cls ≠ "java/lang/invoke/VarHandle" ∧ (parseMethodDescriptor yX1_give.desc).map (fun d => d.parameters.length) = some 1 := by decide +kernel
theorem hsX1_give : yX1_give.cls ≠ "java/lang/invoke/MethodHandle" ∧ yX1_give.cls ≠ "java/lang/invoke/VarHandle" ∧ (parseMethodDescriptor yX1_give.desc).map (fun d => d.parameters.length) = some 1 := hdX1_give.2
theorem hdX1_isBelow : yX1_isBelow.cls = RX1 ∧ yX1_isBelow.cls ≠ "java/lang/invoke/MethodHandle" ∧ yX1_isBelow.cls ≠ "java/lang/invoke/VarHandle" ∧ (parseMethodDescriptor yX1_isBelow.desc).map (fun d => d.parameters.length) = some 3 := by decide +kernel
theorem hsX1_isBelow : yX1_isBelow.cls ≠ "java/lang/invoke/MethodHandle" ∧ yX1_isBelow.cls ≠ "java/lang/invoke/VarHandle" ∧ (parseMethodDescriptor yX1_isBelow.desc).map (fun d => d.parameters.length) = some 3 := hdX1_isBelow.2
theorem hdX1_isRegister : yX1_isRegister.cls = RX1 ∧ yX1_isRegister.cls ≠ "java/lang/invoke/MethodHandle" ∧ yX1_isRegister.cls ≠ "java/lang/invoke/VarHandle" ∧ (parseMethodDescriptor yX1_isRegister.desc).map (fun d => d.parameters.length) = some 1 := by decide +kernel
theorem hsX1_isRegister : yX1_isRegister.cls ≠ "java/lang/invoke/MethodHandle" ∧ yX1_isRegister.cls ≠ "java/lang/invoke/VarHandle" ∧ (parseMethodDescriptor yX1_isRegister.desc).map (fun d => d.parameters.length) = some 1 := hdX1_isRegister.2
theorem hdX1_length : yX1_length.cls = RX1 ∧ yX1_length.cls ≠ "java/lang/invoke/MethodHandle" ∧ yX1_length.cls ≠ "java/lang/invoke/VarHandle" ∧ (parseMethodDescriptor yX1_length.desc).map (fun d => d.parameters.length) = some 1 := by decide +kernel
theorem hsX1_length : yX1_length.cls ≠ "java/lang/invoke/MethodHandle" ∧ yX1_length.cls ≠ "java/lang/invoke/VarHandle" ∧ (parseMethodDescriptor yX1_length.desc).map (fun d => d.parameters.length) = some 1 := hdX1_length.2
theorem hdX1_less : yX1_less.cls = RX1 ∧ yX1_less.cls ≠ "java/lang/invoke/MethodHandle" ∧ yX1_less.cls ≠ "java/lang/invoke/VarHandle" ∧ (parseMethodDescriptor yX1_less.desc).map (fun d => d.parameters.length) = some 3 := by decide +kernel
theorem hsX1_less : yX1_less.cls ≠ "java/lang/invoke/MethodHandle" ∧ yX1_less.cls ≠ "java/lang/invoke/VarHandle" ∧ (parseMethodDescriptor yX1_less.desc).map (fun d => d.parameters.length) = some 3 := hdX1_less.2
theorem hdX1_lessBy : yX1_lessBy.cls = RX1 ∧ yX1_lessBy.cls ≠ "java/lang/invoke/MethodHandle" ∧ yX1_lessBy.cls ≠ "java/lang/invoke/VarHandle" ∧ (parseMethodDescriptor yX1_lessBy.desc).map (fun d => d.parameters.length) = some 3 := by decide +kernel
theorem hsX1_lessBy : yX1_lessBy.cls ≠ "java/lang/invoke/MethodHandle" ∧ yX1_lessBy.cls ≠ "java/lang/invoke/VarHandle" ∧ (parseMethodDescriptor yX1_lessBy.desc).map (fun d => d.parameters.length) = some 3 := hdX1_lessBy.2
theorem hdX1_move : yX1_move.cls = RX1 ∧ yX1_move.cls ≠ "java/lang/invoke/MethodHandle" ∧ yX1_move.cls ≠ "java/lang/invoke/VarHandle" ∧ (parseMethodDescriptor yX1_move.desc).map (fun d => d.parameters.length) = some 2 := by decide +kernel
theorem hsX1_move : yX1_move.cls ≠ "java/lang/invoke/MethodHandle" ∧ yX1_move.cls ≠ "java/lang/invoke/VarHandle" ∧ (parseMethodDescriptor yX1_move.desc).map (fun d => d.parameters.length) = some 2 := hdX1_move.2
theorem hdX1_multiply : yX1_multiply.cls = RX1 ∧ yX1_multiply.cls ≠ "java/lang/invoke/MethodHandle" ∧ yX1_multiply.cls ≠ "java/lang/invoke/VarHandle" ∧ (parseMethodDescriptor yX1_multiply.desc).map (fun d => d.parameters.length) = some 3 := by decide +kernel
theorem hsX1_multiply : yX1_multiply.cls ≠ "java/lang/invoke/MethodHandle" ∧ yX1_multiply.cls ≠ "java/lang/invoke/VarHandle" ∧ (parseMethodDescriptor yX1_multiply.desc).map (fun d => d.parameters.length) = some 3 := hdX1_multiply.2
theorem hdX1_negate : yX1_negate.cls = RX1 ∧ yX1_negate.cls ≠ "java/lang/invoke/MethodHandle" ∧ yX1_negate.cls ≠ "java/lang/invoke/VarHandle" ∧ (parseMethodDescriptor yX1_negate.desc).map (fun d => d.parameters.length) = some 1 := by decide +kernel
theorem hsX1_negate : yX1_negate.cls ≠ "java/lang/invoke/MethodHandle" ∧ yX1_negate.cls ≠ "java/lang/invoke/VarHandle" ∧ (parseMethodDescriptor yX1_negate.desc).map (fun d => d.parameters.length) = some 1 := hdX1_negate.2
theorem hdX1_order : yX1_order.cls = RX1 ∧ yX1_order.cls ≠ "java/lang/invoke/MethodHandle" ∧ yX1_order.cls ≠ "java/lang/invoke/VarHandle" ∧ (parseMethodDescriptor yX1_order.desc).map (fun d => d.parameters.length) = some 2 := by decide +kernel
theorem hsX1_order : yX1_order.cls ≠ "java/lang/invoke/MethodHandle" ∧ yX1_order.cls ≠ "java/lang/invoke/VarHandle" ∧ (parseMethodDescriptor yX1_order.desc).map (fun d => d.parameters.length) = some 2 := hdX1_order.2
theorem hdX1_put : yX1_put.cls = RX1 ∧ yX1_put.cls ≠ "java/lang/invoke/MethodHandle" ∧ yX1_put.cls ≠ "java/lang/invoke/VarHandle" ∧ (parseMethodDescriptor yX1_put.desc).map (fun d => d.parameters.length) = some 3 := by decide +kernel
theorem hsX1_put : yX1_put.cls ≠ "java/lang/invoke/MethodHandle" ∧ yX1_put.cls ≠ "java/lang/invoke/VarHandle" ∧ (parseMethodDescriptor yX1_put.desc).map (fun d => d.parameters.length) = some 3 := hdX1_put.2
theorem hdX1_residue : yX1_residue.cls = RX1 ∧ yX1_residue.cls ≠ "java/lang/invoke/MethodHandle" ∧ yX1_residue.cls ≠ "java/lang/invoke/VarHandle" ∧ (parseMethodDescriptor yX1_residue.desc).map (fun d => d.parameters.length) = some 2 := by decide +kernel
theorem hsX1_residue : yX1_residue.cls ≠ "java/lang/invoke/MethodHandle" ∧ yX1_residue.cls ≠ "java/lang/invoke/VarHandle" ∧ (parseMethodDescriptor yX1_residue.desc).map (fun d => d.parameters.length) = some 2 := hdX1_residue.2
theorem hdX1_root : yX1_root.cls = RX1 ∧ yX1_root.cls ≠ "java/lang/invoke/MethodHandle" ∧ yX1_root.cls ≠ "java/lang/invoke/VarHandle" ∧ (parseMethodDescriptor yX1_root.desc).map (fun d => d.parameters.length) = some 2 := by decide +kernel
theorem hsX1_root : yX1_root.cls ≠ "java/lang/invoke/MethodHandle" ∧ yX1_root.cls ≠ "java/lang/invoke/VarHandle" ∧ (parseMethodDescriptor yX1_root.desc).map (fun d => d.parameters.length) = some 2 := hdX1_root.2
theorem hdX1_set : yX1_set.cls = RX1 ∧ yX1_set.cls ≠ "java/lang/invoke/MethodHandle" ∧ yX1_set.cls ≠ "java/lang/invoke/VarHandle" ∧ (parseMethodDescriptor yX1_set.desc).map (fun d => d.parameters.length) = some 2 := by decide +kernel
theorem hsX1_set : yX1_set.cls ≠ "java/lang/invoke/MethodHandle" ∧ yX1_set.cls ≠ "java/lang/invoke/VarHandle" ∧ (parseMethodDescriptor yX1_set.desc).map (fun d => d.parameters.length) = some 2 := hdX1_set.2
theorem hdX1_shift : yX1_shift.cls = RX1 ∧ yX1_shift.cls ≠ "java/lang/invoke/MethodHandle" ∧ yX1_shift.cls ≠ "java/lang/invoke/VarHandle" ∧ (parseMethodDescriptor yX1_shift.desc).map (fun d => d.parameters.length) = some 4 := by decide +kernel
theorem hsX1_shift : yX1_shift.cls ≠ "java/lang/invoke/MethodHandle" ∧ yX1_shift.cls ≠ "java/lang/invoke/VarHandle" ∧ (parseMethodDescriptor yX1_shift.desc).map (fun d => d.parameters.length) = some 4 := hdX1_shift.2
theorem hdX1_sign : yX1_sign.cls = RX1 ∧ yX1_sign.cls ≠ "java/lang/invoke/MethodHandle" ∧ yX1_sign.cls ≠ "java/lang/invoke/VarHandle" ∧ (parseMethodDescriptor yX1_sign.desc).map (fun d => d.parameters.length) = some 1 := by decide +kernel
theorem hsX1_sign : yX1_sign.cls ≠ "java/lang/invoke/MethodHandle" ∧ yX1_sign.cls ≠ "java/lang/invoke/VarHandle" ∧ (parseMethodDescriptor yX1_sign.desc).map (fun d => d.parameters.length) = some 1 := hdX1_sign.2
theorem hdX1_subtract : yX1_subtract.cls = RX1 ∧ yX1_subtract.cls ≠ "java/lang/invoke/MethodHandle" ∧ yX1_subtract.cls ≠ "java/lang/invoke/VarHandle" ∧ (parseMethodDescriptor yX1_subtract.desc).map (fun d => d.parameters.length) = some 3 := by decide +kernel
theorem hsX1_subtract : yX1_subtract.cls ≠ "java/lang/invoke/MethodHandle" ∧ yX1_subtract.cls ≠ "java/lang/invoke/VarHandle" ∧ (parseMethodDescriptor yX1_subtract.desc).map (fun d => d.parameters.length) = some 3 := hdX1_subtract.2
theorem hdX1_sum : yX1_sum.cls = RX1 ∧ yX1_sum.cls ≠ "java/lang/invoke/MethodHandle" ∧ yX1_sum.cls ≠ "java/lang/invoke/VarHandle" ∧ (parseMethodDescriptor yX1_sum.desc).map (fun d => d.parameters.length) = some 0 := by decide +kernel
theorem hsX1_sum : yX1_sum.cls ≠ "java/lang/invoke/MethodHandle" ∧ yX1_sum.cls ≠ "java/lang/invoke/VarHandle" ∧ (parseMethodDescriptor yX1_sum.desc).map (fun d => d.parameters.length) = some 0 := hdX1_sum.2
theorem hdX1_take : yX1_take.cls = RX1 ∧ yX1_take.cls ≠ "java/lang/invoke/MethodHandle" ∧ yX1_take.cls ≠ "java/lang/invoke/VarHandle" ∧ (parseMethodDescriptor yX1_take.desc).map (fun d => d.parameters.length) = some 3 := by decide +kernel
theorem hsX1_take : yX1_take.cls ≠ "java/lang/invoke/MethodHandle" ∧ yX1_take.cls ≠ "java/lang/invoke/VarHandle" ∧ (parseMethodDescriptor yX1_take.desc).map (fun d => d.parameters.length) = some 3 := hdX1_take.2
theorem hdX1_thrown : yX1_thrown.cls = RX1 ∧ yX1_thrown.cls ≠ "java/lang/invoke/MethodHandle" ∧ yX1_thrown.cls ≠ "java/lang/invoke/VarHandle" ∧ (parseMethodDescriptor yX1_thrown.desc).map (fun d => d.parameters.length) = some 0 := by decide +kernel
theorem hsX1_thrown : yX1_thrown.cls ≠ "java/lang/invoke/MethodHandle" ∧ yX1_thrown.cls ≠ "java/lang/invoke/VarHandle" ∧ (parseMethodDescriptor yX1_thrown.desc).map (fun d => d.parameters.length) = some 0 := hdX1_thrown.2
theorem hdX1_word : yX1_word.cls = RX1 ∧ yX1_word.cls ≠ "java/lang/invoke/MethodHandle" ∧ yX1_word.cls ≠ "java/lang/invoke/VarHandle" ∧ (parseMethodDescriptor yX1_word.desc).map (fun d => d.parameters.length) = some 2 := by decide +kernel
theorem hsX1_word : yX1_word.cls ≠ "java/lang/invoke/MethodHandle" ∧ yX1_word.cls ≠ "java/lang/invoke/VarHandle" ∧ (parseMethodDescriptor yX1_word.desc).map (fun d => d.parameters.length) = some 2 := hdX1_word.2
theorem hsJ7_fill_53178 : yJ7_fill_53178.cls ≠ "java/lang/invoke/MethodHandle" ∧ yJ7_fill_53178.cls ≠ "java/lang/invoke/VarHandle" ∧ (parseMethodDescriptor yJ7_fill_53178.desc).map (fun d => d.parameters.length) = some 2 := by decide +kernel
abbrev nX {σ : Type} : String → σ → Prop := fun _ _ => False
section RZ
variable {l : Launch} {D : va_G} {cI cO : ClassId} {a : Nat → Nat} {cc : ByteArray} {nL : Nat} {Ts : List Cond} {F km LL : Nat} {rt : Option FieldType} {post : Option Value → ZZ → Prop} {px : String → ZZ → Prop} {J : JT ZZ}
variable {Z : ZZ} {k pc : Nat} {lv : List (Nat × Value)} {rest : List Value}
theorem x_ald_c (hJ : IsJ l D (tX cI cO) (wX cI cO a) cc nL Ts RX0 F km LL rt post px J) {i : Int} (hi : 0 ≤ i ∧ i < 12) (hdg : decode cc pc = .ok (.iaload, 1)) (kk : J Z k (pc + 1) lv (.int (iZ (Z 0 i.toNat)) :: rest)) : J Z k pc lv (.int (iZ i) :: .ref (a 2) :: rest) := x_ald hJ (j := 0) (by decide) hi hdg kk
theorem x_ast_c (hJ : IsJ l D (tX cI cO) (wX cI cO a) cc nL Ts RX0 F km LL rt post px J) {i v : Int} (hi : 0 ≤ i ∧ i < 12) (hdg : decode cc pc = .ok (.iastore, 1)) (kk : J (zup Z 0 i.toNat v) k (pc + 1) lv rest) : J Z k pc lv (.int (iZ v) :: .int (iZ i) :: .ref (a 2) :: rest) := x_ast hJ (j := 0) (by decide) hi hdg kk
theorem x_ald_s (hJ : IsJ l D (tX cI cO) (wX cI cO a) cc nL Ts RX0 F km LL rt post px J) {i : Int} (hi : 0 ≤ i ∧ i < 12) (hdg : decode cc pc = .ok (.iaload, 1)) (kk : J Z k (pc + 1) lv (.int (iZ (Z 1 i.toNat)) :: rest)) : J Z k pc lv (.int (iZ i) :: .ref (a 3) :: rest) := x_ald hJ (j := 1) (by decide) hi hdg kk
theorem x_ast_s (hJ : IsJ l D (tX cI cO) (wX cI cO a) cc nL Ts RX0 F km LL rt post px J) {i v : Int} (hi : 0 ≤ i ∧ i < 12) (hdg : decode cc pc = .ok (.iastore, 1)) (kk : J (zup Z 1 i.toNat v) k (pc + 1) lv rest) : J Z k pc lv (.int (iZ v) :: .int (iZ i) :: .ref (a 3) :: rest) := x_ast hJ (j := 1) (by decide) hi hdg kk
theorem x_ald_r (hJ : IsJ l D (tX cI cO) (wX cI cO a) cc nL Ts RX0 F km LL rt post px J) {i : Int} (hi : 0 ≤ i ∧ i < 513) (hdg : decode cc pc = .ok (.iaload, 1)) (kk : J Z k (pc + 1) lv (.int (iZ (Z 2 i.toNat)) :: rest)) : J Z k pc lv (.int (iZ i) :: .ref (a 4) :: rest) := x_ald hJ (j := 2) (by decide) hi hdg kk
theorem x_ast_r (hJ : IsJ l D (tX cI cO) (wX cI cO a) cc nL Ts RX0 F km LL rt post px J) {i v : Int} (hi : 0 ≤ i ∧ i < 513) (hdg : decode cc pc = .ok (.iastore, 1)) (kk : J (zup Z 2 i.toNat v) k (pc + 1) lv rest) : J Z k pc lv (.int (iZ v) :: .int (iZ i) :: .ref (a 4) :: rest) := x_ast hJ (j := 2) (by decide) hi hdg kk
theorem x_ald_l (hJ : IsJ l D (tX cI cO) (wX cI cO a) cc nL Ts RX0 F km LL rt post px J) {i : Int} (hi : 0 ≤ i ∧ i < 514) (hdg : decode cc pc = .ok (.iaload, 1)) (kk : J Z k (pc + 1) lv (.int (iZ (Z 3 i.toNat)) :: rest)) : J Z k pc lv (.int (iZ i) :: .ref (a 5) :: rest) := x_ald hJ (j := 3) (by decide) hi hdg kk
theorem x_ast_l (hJ : IsJ l D (tX cI cO) (wX cI cO a) cc nL Ts RX0 F km LL rt post px J) {i v : Int} (hi : 0 ≤ i ∧ i < 514) (hdg : decode cc pc = .ok (.iastore, 1)) (kk : J (zup Z 3 i.toNat v) k (pc + 1) lv rest) : J Z k pc lv (.int (iZ v) :: .int (iZ i) :: .ref (a 5) :: rest) := x_ast hJ (j := 3) (by decide) hi hdg kk
theorem x_ald_d (hJ : IsJ l D (tX cI cO) (wX cI cO a) cc nL Ts RX0 F km LL rt post px J) {i : Int} (hi : 0 ≤ i ∧ i < 513) (hdg : decode cc pc = .ok (.iaload, 1)) (kk : J Z k (pc + 1) lv (.int (iZ (Z 4 i.toNat)) :: rest)) : J Z k pc lv (.int (iZ i) :: .ref (a 6) :: rest) := x_ald hJ (j := 4) (by decide) hi hdg kk
theorem x_ast_d (hJ : IsJ l D (tX cI cO) (wX cI cO a) cc nL Ts RX0 F km LL rt post px J) {i v : Int} (hi : 0 ≤ i ∧ i < 513) (hdg : decode cc pc = .ok (.iastore, 1)) (kk : J (zup Z 4 i.toNat v) k (pc + 1) lv rest) : J Z k pc lv (.int (iZ v) :: .int (iZ i) :: .ref (a 6) :: rest) := x_ast hJ (j := 4) (by decide) hi hdg kk
theorem xln_row (r : Nat) : xln (r + 5) = 512 := by unfold xln; rw [if_neg (by omega), if_neg (by omega), if_neg (by omega), if_neg (by omega)]
theorem x_ald_w (hJ : IsJ l D (tX cI cO) (wX cI cO a) cc nL Ts RX0 F km LL rt post px J) {r : Nat} {i : Int} (hr : r < 12) (hi : 0 ≤ i ∧ i < 512) (hdg : decode cc pc = .ok (.iaload, 1)) (kk : J Z k (pc + 1) lv (.int (iZ (Z (r + 5) i.toNat)) :: rest)) : J Z k pc lv (.int (iZ i) :: .ref (a (r + 7)) :: rest) := x_ald hJ (j := r + 5) (by omega) (by rw [xln_row]; exact hi) hdg kk
end RZ
end
section
/-- the digits of a row are what they must be -/
def dgs (B : Int) (N : Nat) (f : Nat → Int) : Prop := ∀ i, i < N → 0 ≤ f i ∧ f i < B
/-- how many digits a row has, without zeros ahead: the greatest n ≤ N with a digit at n - 1 -/
def lenr (f : Nat → Int) : Nat → Nat
  | 0 => 0
  | n + 1 => if f n = 0 then lenr f n else n + 1
theorem lenr_s (f : Nat → Int) (n : Nat) : lenr f (n + 1) = if f n = 0 then lenr f n else n + 1 := rfl
/-! digits to the base B, the lowest first -/
def vs (B : Int) (f : Nat → Int) : Nat → Int
  | 0 => 0
  | n + 1 => vs B f n + f n * B ^ n
theorem vs_s (B : Int) (f : Nat → Int) (n : Nat) : vs B f (n + 1) = vs B f n + f n * B ^ n := rfl
theorem vs_congr {B : Int} {f g : Nat → Int} : ∀ {n : Nat}, (∀ i, i < n → f i = g i) → vs B f n = vs B g n
  | 0, _ => rfl
  | n + 1, h => by rw [vs_s, vs_s, vs_congr (fun i hi => h i (Nat.lt_succ_of_lt hi)), h n (Nat.lt_succ_self n)]
theorem pw_pos {B : Int} (hB : 0 < B) (n : Nat) : 0 < B ^ n := Int.pow_pos hB
theorem pw_s (B : Int) (n : Nat) : B ^ (n + 1) = B ^ n * B := Int.pow_succ B n
theorem vs_nonneg {B : Int} (hB : 0 < B) {f : Nat → Int} : ∀ {n : Nat}, dgs B n f → 0 ≤ vs B f n
  | 0, _ => Int.le_refl 0
  | n + 1, h => by
    have h1 := vs_nonneg hB (n := n) (fun i hi => h i (Nat.lt_succ_of_lt hi))
    have h2 := Int.mul_nonneg (h n (Nat.lt_succ_self n)).1 (Int.le_of_lt (pw_pos hB n))
    rw [vs_s]; omega
theorem vs_lt {B : Int} (hB : 0 < B) {f : Nat → Int} : ∀ {n : Nat}, dgs B n f → vs B f n < B ^ n
  | 0, _ => by show (0 : Int) < B ^ 0; rw [Int.pow_zero]; decide
  | n + 1, h => by
    have h1 := vs_lt hB (n := n) (fun i hi => h i (Nat.lt_succ_of_lt hi))
    have h3 := (h n (Nat.lt_succ_self n)).2
    have h2 : (f n + 1) * B ^ n ≤ B * B ^ n := Int.mul_le_mul_of_nonneg_right (by omega) (Int.le_of_lt (pw_pos hB n))
    rw [vs_s, pw_s, Int.mul_comm (B ^ n) B]
    rw [Int.add_mul] at h2
    omega
/-- the digits above m are 0 -/
theorem vs_top {B : Int} {f : Nat → Int} {m : Nat} : ∀ {n : Nat}, m ≤ n → (∀ i, m ≤ i → i < n → f i = 0) → vs B f n = vs B f m
  | 0, h, _ => by rw [Nat.le_zero.mp h]
  | n + 1, h, h0 => by
    rcases Nat.lt_or_ge n m with q | q
    · rw [show m = n + 1 by omega]
    · rw [vs_s, vs_top q (fun i h1 h2 => h0 i h1 (Nat.lt_succ_of_lt h2)), h0 n q (Nat.lt_succ_self n)]
      omega
/-- f, but v at n -/
def fset (f : Nat → Int) (n : Nat) (v : Int) : Nat → Int := fun k => if k = n then v else f k
theorem fset_eq (f : Nat → Int) (n : Nat) (v : Int) : fset f n v n = v := if_pos rfl
theorem fset_ne {f : Nat → Int} {n k : Nat} {v : Int} (h : k ≠ n) : fset f n v k = f k := if_neg h
theorem vs_push (B : Int) (f : Nat → Int) (n : Nat) (v : Int) : vs B (fset f n v) (n + 1) = vs B f n + v * B ^ n := by
  rw [vs_s, fset_eq, vs_congr (fun i hi => fset_ne (Nat.ne_of_lt hi))]
theorem dgs_push {B : Int} {n : Nat} {f : Nat → Int} {v : Int} (h : dgs B n f) (hv : 0 ≤ v ∧ v < B) : dgs B (n + 1) (fset f n v) := by
  intro i hi
  by_cases q : i = n
  · rw [q, fset_eq]; exact hv
  · rw [fset_ne q]; exact h i (by omega)
theorem zrw_push (Z : ZZ) (j n : Nat) (f : Nat → Int) (v : Int) : zup (zrw Z j n f) j n v = zrw Z j (n + 1) (fset f n v) := by
  rw [← zrw_succ, fset_eq]
  congr 1
  exact zrw_congr (fun i hi => (fset_ne (Nat.ne_of_lt hi)).symm)
theorem dgs_mono {B : Int} {n m : Nat} {f : Nat → Int} (h : dgs B n f) (hm : m ≤ n) : dgs B m f := fun i hi => h i (Nat.lt_of_lt_of_le hi hm)
theorem dgs_0 (B : Int) (f : Nat → Int) : dgs B 0 f := fun i hi => absurd hi (Nat.not_lt_zero i)
theorem vs_diff {B : Int} {f g : Nat → Int} {k : Nat} : ∀ {n : Nat}, k ≤ n → (∀ i, k ≤ i → i < n → f i = g i) → vs B f n - vs B g n = vs B f k - vs B g k
  | 0, h, _ => by rw [Nat.le_zero.mp h]
  | n + 1, h, h0 => by
    rcases Nat.lt_or_ge n k with q | q
    · rw [show k = n + 1 by omega]
    · have := vs_diff (B := B) q (fun i h1 h2 => h0 i h1 (Nat.lt_succ_of_lt h2))
      rw [vs_s, vs_s, h0 n q (Nat.lt_succ_self n)]
      omega
theorem vs_cmp {B : Int} (hB : 0 < B) {f g : Nat → Int} {k n : Nat} (hf : dgs B n f) (hg : dgs B n g) (hk : k < n) (h : ∀ i, k < i → i < n → f i = g i) (hlt : f k < g k) : vs B f n < vs B g n := by
  have h1 := vs_diff (B := B) (k := k + 1) (n := n) hk (fun i q1 q2 => h i q1 q2)
  have h2 := vs_lt hB (dgs_mono hf (Nat.le_of_lt hk))
  have h3 := vs_nonneg hB (dgs_mono hg (Nat.le_of_lt hk))
  have h4 := Int.mul_le_mul_of_nonneg_right (show f k + 1 ≤ g k from hlt) (Int.le_of_lt (pw_pos hB k))
  rw [vs_s, vs_s] at h1
  rw [Int.add_mul] at h4
  omega
theorem vs_eq {B : Int} {f g : Nat → Int} {n : Nat} (h : ∀ i, i < n → f i = g i) : vs B f n = vs B g n := vs_congr h
/-- the top digit of a row is 0 above its length, and not 0 at it -/
theorem lenr_le (f : Nat → Int) : ∀ n, lenr f n ≤ n
  | 0 => Nat.le_refl 0
  | n + 1 => by
    rw [lenr_s]
    split
    · exact Nat.le_succ_of_le (lenr_le f n)
    · exact Nat.le_refl _
theorem lenr_zero (f : Nat → Int) : ∀ n i, lenr f n ≤ i → i < n → f i = 0
  | 0, i, _, h => absurd h (Nat.not_lt_zero i)
  | n + 1, i, h1, h2 => by
    rw [lenr_s] at h1
    split at h1
    · rename_i h0
      by_cases q : i = n
      · rw [q]; exact h0
      · exact lenr_zero f n i h1 (by omega)
    · omega
theorem lenr_top (f : Nat → Int) : ∀ n, lenr f n = 0 ∨ f (lenr f n - 1) ≠ 0
  | 0 => Or.inl rfl
  | n + 1 => by
    rw [lenr_s]
    split
    · exact lenr_top f n
    · rename_i h0
      exact Or.inr h0
theorem vs_len (B : Int) (f : Nat → Int) (n : Nat) : vs B f n = vs B f (lenr f n) := vs_top (lenr_le f n) (fun i h1 h2 => lenr_zero f n i h1 h2)
/-- the length by the value -/
theorem lenr_ge {B : Int} (hB : 0 < B) {f : Nat → Int} {n : Nat} (hf : dgs B n f) (h : 0 < lenr f n) : B ^ (lenr f n - 1) ≤ vs B f n := by
  have ht := (lenr_top f n).resolve_left (Nat.ne_of_gt h)
  have hl := lenr_le f n
  rw [vs_len]
  obtain ⟨m, hm⟩ : ∃ m, lenr f n = m + 1 := ⟨lenr f n - 1, by omega⟩
  rw [hm] at ht ⊢
  rw [vs_s, Nat.add_sub_cancel]
  rw [Nat.add_sub_cancel] at ht
  have h1 := vs_nonneg hB (dgs_mono hf (show m ≤ n by omega))
  have h2 := (hf m (by omega)).1
  have h3 := Int.mul_le_mul_of_nonneg_right (show 1 ≤ f m by omega) (Int.le_of_lt (pw_pos hB m))
  omega
theorem lenr_lt {B : Int} (hB : 0 < B) {f : Nat → Int} {n : Nat} (hf : dgs B n f) : vs B f n < B ^ (lenr f n) := by
  rw [vs_len]
  exact vs_lt hB (dgs_mono hf (lenr_le f n))
theorem pw_mono {B : Int} (hB : 1 < B) {m n : Nat} (h : m ≤ n) : B ^ m ≤ B ^ n := by
  obtain ⟨d, rfl⟩ := Nat.exists_eq_add_of_le h
  rw [Int.pow_add]
  have h1 := pw_pos (show 0 < B by omega) m
  have h2 := pw_pos (show 0 < B by omega) d
  have h3 := Int.mul_le_mul_of_nonneg_left (show 1 ≤ B ^ d by omega) (Int.le_of_lt h1)
  omega
theorem pw_le {B : Int} (hB : 1 < B) {m n : Nat} (h : B ^ m < B ^ n) : m < n := by
  rcases Nat.lt_or_ge m n with q | q
  · exact q
  · have := pw_mono hB q
    omega
/-- length at most m just when the value is below B^m -/
theorem lenr_iff {B : Int} (hB : 1 < B) {f : Nat → Int} {n m : Nat} (hf : dgs B n f) : lenr f n ≤ m ↔ vs B f n < B ^ m := by
  constructor
  · intro h
    exact Int.lt_of_lt_of_le (lenr_lt (by omega) hf) (pw_mono hB h)
  · intro h
    rcases Nat.lt_or_ge m (lenr f n) with q | q
    · have h1 := lenr_ge (show 0 < B by omega) hf (by omega)
      have h2 := pw_le hB (Int.lt_of_le_of_lt h1 h)
      omega
    · exact q
theorem lenr_0iff {B : Int} (hB : 1 < B) {f : Nat → Int} {n : Nat} (hf : dgs B n f) : lenr f n = 0 ↔ vs B f n = 0 := by
  have h := lenr_iff hB hf (m := 0)
  have h1 := vs_nonneg (show 0 < B by omega) hf
  rw [Int.pow_zero] at h
  omega
end
section
theorem vs_add (B : Int) (f : Nat → Int) (q : Nat) : ∀ m : Nat, vs B f (q + m) = vs B f q + B ^ q * vs B (fun i => f (q + i)) m
  | 0 => by show vs B f q = vs B f q + B ^ q * 0; omega
  | m + 1 => by
    rw [← Nat.add_assoc, vs_s, vs_add B f q m, vs_s, Int.pow_add]
    grind
theorem vs_1 (B : Int) (f : Nat → Int) (m : Nat) : vs B f (m + 1) = f 0 + B * vs B (fun i => f (1 + i)) m := by
  rw [Nat.add_comm, vs_add]
  show vs B f 1 + B ^ 1 * _ = _
  rw [show (1 : Nat) = 0 + 1 from rfl, vs_s, Int.pow_zero, Int.pow_succ, Int.pow_zero]
  show 0 + f 0 * 1 + 1 * B * _ = _
  rw [Int.one_mul]
  omega
/-- the digits from q on -/
theorem vs_div {B : Int} (hB : 0 < B) {f : Nat → Int} {q m : Nat} (hf : dgs B (q + m) f) : vs B f (q + m) / B ^ q = vs B (fun i => f (q + i)) m := by
  have h1 := vs_nonneg hB (dgs_mono hf (Nat.le_add_right q m))
  have h2 := vs_lt hB (dgs_mono hf (Nat.le_add_right q m))
  rw [vs_add, Int.add_mul_ediv_left _ _ (Int.ne_of_gt (pw_pos hB q)), Int.ediv_eq_zero_of_lt h1 h2]
  omega
theorem vs_mod {B : Int} (hB : 0 < B) {f : Nat → Int} {q m : Nat} (hf : dgs B (q + m) f) : vs B f (q + m) % B ^ q = vs B f q := by
  have h1 := vs_nonneg hB (dgs_mono hf (Nat.le_add_right q m))
  have h2 := vs_lt hB (dgs_mono hf (Nat.le_add_right q m))
  rw [vs_add, Int.add_mul_emod_self_left, Int.emod_eq_of_lt h1 h2]
theorem vs_digit {B : Int} (hB : 0 < B) {f : Nat → Int} {q n : Nat} (hq : q < n) (hf : dgs B n f) : vs B f n / B ^ q % B = f q := by
  obtain ⟨m, rfl⟩ : ∃ m, n = q + (m + 1) := ⟨n - q - 1, by omega⟩
  rw [vs_div hB hf, vs_1, Int.add_mul_emod_self_left]
  have h := hf q hq
  exact Int.emod_eq_of_lt h.1 h.2
theorem pw2_cast (n : Nat) : ((2 ^ n : Nat) : Int) = (2 : Int) ^ n := by rw [Int.natCast_pow]; rfl
theorem pw_mul (B : Int) (m n : Nat) : (B ^ m) ^ n = B ^ (m * n) := Int.pow_mul.symm
/-- bit k of a number by its digits -/
theorem bit_digit {f : Nat → Int} {n : Nat} (hf : dgs 65536 n f) {q s : Nat} (hq : q < n) (hs : s < 16) : f q / (2 : Int) ^ s % 2 = vs 65536 f n / (2 : Int) ^ (16 * q + s) % 2 := by
  have hp : (2 : Int) ^ (16 * q + s) = 65536 ^ q * 2 ^ s := by
    rw [Int.pow_add, ← pw_mul]; rfl
  have hps := pw_pos (B := 2) (by decide) s
  have hd := vs_digit (by decide) hq hf
  rw [hp, ← Int.ediv_ediv_of_nonneg (Int.le_of_lt (pw_pos (by decide) q))]
  generalize vs 65536 f n / 65536 ^ q = t at hd ⊢
  have h1 : t = f q + 2 ^ s * ((2 : Int) ^ (15 - s) * 2 * (t / 65536)) := by
    have h2 : (2 : Int) ^ s * ((2 : Int) ^ (15 - s) * 2 * (t / 65536)) = 65536 * (t / 65536) := by
      rw [← Int.mul_assoc, ← Int.mul_assoc, ← Int.pow_add, ← Int.pow_succ, show (s + (15 - s)).succ = 16 by omega]; rfl
    rw [h2]; omega
  have h3 : t / 2 ^ s = f q / 2 ^ s + (2 : Int) ^ (15 - s) * 2 * (t / 65536) := by
    have h4 : (f q + 2 ^ s * ((2 : Int) ^ (15 - s) * 2 * (t / 65536))) / 2 ^ s = f q / 2 ^ s + (2 : Int) ^ (15 - s) * 2 * (t / 65536) := Int.add_mul_ediv_left _ _ (Int.ne_of_gt hps)
    rw [← h1] at h4
    exact h4
  rw [h3, show (2 : Int) ^ (15 - s) * 2 * (t / 65536) = 2 * (2 ^ (15 - s) * (t / 65536)) by grind, Int.add_mul_emod_self_left]
/-- how many bits a number has -/
def nb (V : Int) (z : Nat) : Prop := V < (2 : Int) ^ z ∧ (z = 0 ∨ (2 : Int) ^ (z - 1) ≤ V)
theorem nb_unique {V : Int} {z w : Nat} (h1 : nb V z) (h2 : nb V w) : z = w := by
  have key : ∀ {z w : Nat}, nb V z → nb V w → z ≤ w := by
    intro z w h1 h2
    rcases h1.2 with q | q
    · omega
    · have := pw_le (B := 2) (by decide) (Int.lt_of_le_of_lt q h2.1)
      omega
  exact Nat.le_antisymm (key h1 h2) (key h2 h1)
theorem nb_0 : nb 0 0 := ⟨by decide, Or.inl rfl⟩
/-- the bits of a number by its top digit's -/
theorem nb_top {f : Nat → Int} {n b z : Nat} (hf : dgs ((2 : Int) ^ b) (n + 1) f) (hz : nb (f n) z) (hz0 : 0 < z) : nb (vs ((2 : Int) ^ b) f (n + 1)) (b * n + z) := by
  have hB : (0 : Int) < 2 ^ b := pw_pos (by decide) b
  have h1 := vs_nonneg hB (dgs_mono hf (Nat.le_succ n))
  have h2 := vs_lt hB (dgs_mono hf (Nat.le_succ n))
  have hp := pw_pos hB n
  have e1 : (2 : Int) ^ (b * n + z) = (2 ^ b) ^ n * 2 ^ z := by rw [Int.pow_add, pw_mul]
  have e2 : (2 : Int) ^ (b * n + z - 1) = (2 ^ b) ^ n * 2 ^ (z - 1) := by rw [show b * n + z - 1 = b * n + (z - 1) by omega, Int.pow_add, pw_mul]
  rw [vs_s]
  constructor
  · rw [e1]
    have h3 := Int.mul_le_mul_of_nonneg_left (show f n + 1 ≤ 2 ^ z from hz.1) (Int.le_of_lt hp)
    grind
  · right
    rw [e2]
    have h4 := hz.2.resolve_left (Nat.ne_of_gt hz0)
    have h3 := Int.mul_le_mul_of_nonneg_left h4 (Int.le_of_lt hp)
    grind
/-- halving a number takes a bit off -/
theorem nb_half {v : Int} (hv : 0 < v) {z : Nat} (h : nb (v / 2) z) : nb v (z + 1) := by
  refine ⟨by rw [pw_s]; have := h.1; omega, Or.inr ?_⟩
  show (2 : Int) ^ z ≤ v
  rcases h.2 with q | q
  · subst q; rw [Int.pow_zero]; omega
  · rcases Nat.eq_zero_or_pos z with w | w
    · subst w; rw [Int.pow_zero]; omega
    · obtain ⟨y, rfl⟩ : ∃ y, z = y + 1 := ⟨z - 1, by omega⟩
      rw [Nat.add_sub_cancel] at q
      rw [pw_s]; omega
end
section
/-! what the document says, as functions of twelve whole numbers -/
def LIM : Int := 65536 ^ 1024
theorem LIM_pos : 0 < LIM := pw_pos (by decide) 1024
theorem LIM_sum {x y : Int} (hx : x < LIM) (hy : y < LIM) : x + y < 65536 ^ 2100 := by
  have h1 : (65536 : Int) ^ 1025 ≤ 65536 ^ 2100 := pw_mono (by decide) (by decide)
  have h2 : (65536 : Int) ^ 1025 = LIM * 65536 := pw_s 65536 1024
  have := LIM_pos
  omega
abbrev isRg (r : Int) : Prop := 0 ≤ r ∧ r < 12
def gset (g : Nat → Int) (i : Nat) (v : Int) : Nat → Int := fun j => if j = i then v else g j
theorem gset_eq (g : Nat → Int) (i : Nat) (v : Int) : gset g i v i = v := if_pos rfl
theorem gset_ne {g : Nat → Int} {i j : Nat} {v : Int} (h : j ≠ i) : gset g i v j = g j := if_neg h
def lim (g : Nat → Int) (r z : Int) : Int × (Nat → Int) := if (z.natAbs : Int) < LIM then (0, gset g r.toNat z) else (2, g)
def oSet (g : Nat → Int) (r v : Int) : Int × (Nat → Int) := if isRg r then (0, gset g r.toNat v) else (1, g)
def oApp (g : Nat → Int) (r w : Int) : Int × (Nat → Int) := if isRg r then lim g r ((if g r.toNat < 0 then -1 else 1) * (((g r.toNat).natAbs : Int) * 4294967296 + w % 4294967296)) else (1, g)
def oNeg (g : Nat → Int) (r : Int) : Int × (Nat → Int) := if isRg r then (0, gset g r.toNat (- g r.toNat)) else (1, g)
def oCopy (g : Nat → Int) (r a : Int) : Int × (Nat → Int) := if isRg r ∧ isRg a then (0, gset g r.toNat (g a.toNat)) else (1, g)
def oAdd (g : Nat → Int) (r a b : Int) : Int × (Nat → Int) := if isRg r ∧ isRg a ∧ isRg b then lim g r (g a.toNat + g b.toNat) else (1, g)
def oSub (g : Nat → Int) (r a b : Int) : Int × (Nat → Int) := if isRg r ∧ isRg a ∧ isRg b then lim g r (g a.toNat - g b.toNat) else (1, g)
def oMul (g : Nat → Int) (r a b : Int) : Int × (Nat → Int) := if isRg r ∧ isRg a ∧ isRg b then lim g r (g a.toNat * g b.toNat) else (1, g)
def oDiv (g : Nat → Int) (q t a b : Int) : Int × (Nat → Int) := if isRg q ∧ isRg t ∧ isRg a ∧ isRg b then (if q = t ∨ g b.toNat = 0 then (2, g) else (0, gset (gset g q.toNat ((g a.toNat).tdiv (g b.toNat))) t.toNat ((g a.toNat).tmod (g b.toNat)))) else (1, g)
/-- the greatest number whose square isn't above x -/
noncomputable def rt (x : Int) : Int := Classical.epsilon (fun z : Int => 0 ≤ z ∧ z * z ≤ x ∧ x < (z + 1) * (z + 1))
theorem rt_unique {x z w : Int} (h1 : 0 ≤ z ∧ z * z ≤ x ∧ x < (z + 1) * (z + 1)) (h2 : 0 ≤ w ∧ w * w ≤ x ∧ x < (w + 1) * (w + 1)) : z = w := by
  have key : ∀ {z w : Int}, (0 ≤ z ∧ z * z ≤ x) → (0 ≤ w ∧ x < (w + 1) * (w + 1)) → z ≤ w := by
    intro z w p q
    rcases Int.lt_or_le w z with c | c
    · have := Int.mul_le_mul (show w + 1 ≤ z from c) (show w + 1 ≤ z from c) (by omega) (by omega)
      omega
    · exact c
  exact Int.le_antisymm (key ⟨h1.1, h1.2.1⟩ ⟨h2.1, h2.2.2⟩) (key ⟨h2.1, h2.2.1⟩ ⟨h1.1, h1.2.2⟩)
theorem rt_eq {x z : Int} (h : 0 ≤ z ∧ z * z ≤ x ∧ x < (z + 1) * (z + 1)) : rt x = z := rt_unique (Classical.epsilon_spec (p := fun z : Int => 0 ≤ z ∧ z * z ≤ x ∧ x < (z + 1) * (z + 1)) ⟨z, h⟩) h
noncomputable def oRoot (g : Nat → Int) (r a : Int) : Int × (Nat → Int) := if isRg r ∧ isRg a then (if g a.toNat < 0 then (2, g) else (0, gset g r.toNat (rt (g a.toNat)))) else (1, g)
def oCmp (g : Nat → Int) (a b : Int) : Int × Int := if isRg a ∧ isRg b then (0, cz (g a.toNat) (g b.toNat)) else (1, 0)
def oCmpS (g : Nat → Int) (a b : Int) : Int × Int := if isRg a ∧ isRg b then (0, cz ((g a.toNat).natAbs) ((g b.toNat).natAbs)) else (1, 0)
def oSign (g : Nat → Int) (a : Int) : Int × Int := if isRg a then (0, (g a.toNat).sign) else (1, 0)
noncomputable def bl (V : Int) : Nat := Classical.epsilon (fun z : Nat => nb V z)
theorem bl_eq {V : Int} {z : Nat} (h : nb V z) : bl V = z := nb_unique (Classical.epsilon_spec (p := fun z : Nat => nb V z) ⟨z, h⟩) h
noncomputable def oBits (g : Nat → Int) (a : Int) : Int × Int := if isRg a then (0, (bl ((g a.toNat).natAbs) : Int)) else (1, 0)
def oWord (g : Nat → Int) (a k : Int) : Int × Int := if isRg a ∧ 0 ≤ k ∧ k < 512 then (0, ((g a.toNat).natAbs : Int) / 4294967296 ^ k.toNat % 4294967296) else (1, 0)
def oRes (g : Nat → Int) (a m : Int) : Int × Int := if isRg a then (if m < 1 then (2, 0) else (0, g a.toNat % m)) else (1, 0)
/-! a sign and a size -/
def sgOK (s v : Int) : Prop := (s = 0 ∧ v = 0) ∨ (s = 1 ∧ 0 < v) ∨ (s = -1 ∧ 0 < v)
theorem sg_of (z : Int) : sgOK z.sign (z.natAbs : Int) := by
  rcases Int.lt_trichotomy z 0 with h | h | h
  · exact Or.inr (Or.inr ⟨Int.sign_eq_neg_one_of_neg h, by omega⟩)
  · subst h; exact Or.inl ⟨rfl, rfl⟩
  · exact Or.inr (Or.inl ⟨Int.sign_eq_one_of_pos h, by omega⟩)
theorem sg_mul (z : Int) : z.sign * (z.natAbs : Int) = z := Int.sign_mul_natAbs z
theorem sg_cases (z : Int) : (z < 0 ∧ z.sign = -1 ∧ (z.natAbs : Int) = -z) ∨ (z = 0 ∧ z.sign = 0 ∧ (z.natAbs : Int) = 0) ∨ (0 < z ∧ z.sign = 1 ∧ (z.natAbs : Int) = z) := by
  rcases Int.lt_trichotomy z 0 with h | h | h
  · exact Or.inl ⟨h, Int.sign_eq_neg_one_of_neg h, by omega⟩
  · subst h; exact Or.inr (Or.inl ⟨rfl, rfl, rfl⟩)
  · exact Or.inr (Or.inr ⟨h, Int.sign_eq_one_of_pos h, by omega⟩)
/-! the reference's state -/
def MI (Z : ZZ) (g : Nat → Int) : Prop := (∀ j, j < 16 → dgs 65536 2100 (Z (j + 2))) ∧ ∀ i, i < 12 → vs 65536 (Z (i + 2)) 2100 = ((g i).natAbs : Int) ∧ Z 1 i = (g i).sign ∧ ((g i).natAbs : Int) < LIM
theorem MI.code {Z : ZZ} {g : Nat → Int} (h : MI Z g) (c : Int) : MI (zup Z 0 0 c) g := by
  refine ⟨fun j hj => ?_, fun i hi => ?_⟩
  · rw [zup_off Z 0 0 c (j' := j + 2) (by omega)]; exact h.1 j hj
  · rw [zup_off Z 0 0 c (j' := i + 2) (by omega), zup_off Z 0 0 c (j' := 1) (by omega)]; exact h.2 i hi
theorem dgs_zrw {Z : ZZ} {j n : Nat} {f : Nat → Int} {B : Int} (h : dgs B 2100 (Z j)) (hf : dgs B n f) : dgs B 2100 (zrw Z j n f j) := by
  intro i hi
  rcases Nat.lt_or_ge i n with q | q
  · rw [zrw_in q]; exact hf i q
  · rw [zrw_ge q]; exact h i hi
/-- a row beside the registers -/
theorem MI.row {Z : ZZ} {g : Nat → Int} (h : MI Z g) {j n : Nat} {f : Nat → Int} (hj : 12 ≤ j) (hf : dgs 65536 n f) : MI (zrw Z (j + 2) n f) g := by
  refine ⟨fun i hi => ?_, fun i hi => ?_⟩
  · by_cases q : i = j
    · subst q; exact dgs_zrw (h.1 i hi) hf
    · rw [zrw_off (by omega)]; exact h.1 i hi
  · rw [zrw_off (by omega), zrw_off (by omega)]; exact h.2 i hi
theorem MI.sgn {Z : ZZ} {g : Nat → Int} (h : MI Z g) {j : Nat} (hj : 12 ≤ j) (s : Int) : MI (zup Z 1 j s) g := by
  refine ⟨fun i hi => ?_, fun i hi => ?_⟩
  · rw [zup_off Z 1 j s (j' := i + 2) (by omega)]; exact h.1 i hi
  · rw [zup_off Z 1 j s (j' := i + 2) (by omega), zup_ne (by omega)]; exact h.2 i hi
theorem MI.mov {Z : ZZ} {g : Nat → Int} (h : MI Z g) {j i : Nat} (hj : 12 ≤ j) (hi : i < 16) : MI (zup (zrw Z (j + 2) 2100 (Z (i + 2))) 1 j (Z 1 i)) g := (h.row hj (h.1 i hi)).sgn hj _
/-- a register gets a number -/
theorem MI.reg {Z : ZZ} {g : Nat → Int} (h : MI Z g) {r : Nat} (hr : r < 12) {f : Nat → Int} {z s : Int} (hf : dgs 65536 2100 f) (hv : vs 65536 f 2100 = (z.natAbs : Int)) (hs : s = z.sign) (hz : (z.natAbs : Int) < LIM) : MI (zup (zrw Z (r + 2) 2100 f) 1 r s) (gset g r z) := by
  subst hs
  refine ⟨fun i hi => ?_, fun i hi => ?_⟩
  · rw [zup_off _ 1 r _ (j' := i + 2) (by omega)]
    by_cases q : i = r
    · subst q; exact dgs_zrw (h.1 i hi) hf
    · rw [zrw_off (by omega)]; exact h.1 i hi
  · rw [zup_off _ 1 r _ (j' := i + 2) (by omega)]
    by_cases q : i = r
    · subst q
      rw [zup_eq, gset_eq, vs_congr (fun k hk => zrw_in hk)]
      exact ⟨hv, rfl, hz⟩
    · rw [zup_ne (by omega), zrw_off (by omega), zrw_off (by omega), gset_ne q]; exact h.2 i hi
theorem MI_neg {Z : ZZ} {g : Nat → Int} (h : MI Z g) {r : Nat} (hr : r < 12) : MI (zup Z 1 r (- (g r).sign)) (gset g r (- g r)) := by
  refine ⟨fun i hi => ?_, fun i hi => ?_⟩
  · rw [zup_off Z 1 r _ (j' := i + 2) (by omega)]; exact h.1 i hi
  · rw [zup_off Z 1 r _ (j' := i + 2) (by omega)]
    have hq := h.2 i hi
    by_cases q : i = r
    · subst q
      rw [zup_eq, gset_eq, Int.natAbs_neg, Int.sign_neg]
      exact ⟨hq.1, rfl, hq.2.2⟩
    · rw [zup_ne (by omega), gset_ne q]; exact hq
theorem MI.reg2 {Z Z' : ZZ} {g : Nat → Int} (h : MI Z g) {r : Nat} (hr : r < 12) {z : Int} (h1 : ∀ j, j < 16 → j ≠ r → ∀ k, k < 2100 → Z' (j + 2) k = Z (j + 2) k) (h2 : ∀ i, i < 12 → i ≠ r → Z' 1 i = Z 1 i) (hf : dgs 65536 2100 (Z' (r + 2))) (hv : vs 65536 (Z' (r + 2)) 2100 = (z.natAbs : Int)) (hs : Z' 1 r = z.sign) (hz : (z.natAbs : Int) < LIM) : MI Z' (gset g r z) := by
  refine ⟨fun i hi => ?_, fun i hi => ?_⟩
  · by_cases q : i = r
    · subst q; exact hf
    · intro k hk; rw [h1 i hi q k hk]; exact h.1 i hi k hk
  · by_cases q : i = r
    · subst q; rw [gset_eq]; exact ⟨hv, hs, hz⟩
    · rw [vs_congr (h1 i (by omega) q), h2 i hi q, gset_ne q]; exact h.2 i hi
theorem zup_fset (Z : ZZ) (j i : Nat) (v : Int) : zup Z j i v j = fset (Z j) i v := by
  funext k
  unfold zup fset
  by_cases h : k = i
  · rw [if_pos ⟨rfl, h⟩, if_pos h]
  · rw [if_neg (fun q => h q.2), if_neg h]
theorem zrw_upd {Z : ZZ} {j n i : Nat} {f : Nat → Int} {v : Int} (hi : i < n) : zup (zrw Z j n f) j i v = zrw Z j n (fset f i v) := by
  funext j' k
  unfold zup zrw fset
  by_cases h : j' = j ∧ k = i
  · rw [if_pos h, if_pos ⟨h.1, by omega⟩, if_pos h.2]
  · rw [if_neg h]
    by_cases h2 : j' = j ∧ k < n
    · rw [if_pos h2, if_pos h2, if_neg (fun q => h ⟨h2.1, q⟩)]
    · rw [if_neg h2, if_neg h2]
theorem small_LIM {z : Int} (h : z < 18446744073709551616) : z < LIM := by
  have h1 : (65536 : Int) ^ 4 ≤ 65536 ^ 1024 := pw_mono (by decide) (by decide)
  have h2 : (65536 : Int) ^ 4 = 18446744073709551616 := by decide
  have h3 : LIM = 65536 ^ 1024 := rfl
  omega
theorem vs4 {f : Nat → Int} (h : ∀ k, 4 ≤ k → k < 2100 → f k = 0) : vs 65536 f 2100 = f 0 + f 1 * 65536 + f 2 * 4294967296 + f 3 * 281474976710656 := by
  rw [vs_top (m := 4) (by omega) h]
  show 0 + f 0 * 65536 ^ 0 + f 1 * 65536 ^ 1 + f 2 * 65536 ^ 2 + f 3 * 65536 ^ 3 = _
  rw [show (65536 : Int) ^ 0 = 1 by decide, show (65536 : Int) ^ 1 = 65536 by decide, show (65536 : Int) ^ 2 = 4294967296 by decide, show (65536 : Int) ^ 3 = 281474976710656 by decide]
  omega
end
section
/-! products, column by column -/
def cv (f g : Nat → Int) (k : Nat) : Nat → Int
  | 0 => 0
  | t + 1 => cv f g k t + f t * g (k - t)
theorem cv_s (f g : Nat → Int) (k t : Nat) : cv f g k (t + 1) = cv f g k t + f t * g (k - t) := rfl
theorem vs_plus (B : Int) (f g : Nat → Int) : ∀ n, vs B (fun i => f i + g i) n = vs B f n + vs B g n
  | 0 => rfl
  | n + 1 => by rw [vs_s, vs_s, vs_s, vs_plus B f g n]; grind
theorem vs_scale (B c : Int) (f : Nat → Int) : ∀ n, vs B (fun i => c * f i) n = c * vs B f n
  | 0 => by show (0 : Int) = c * 0; omega
  | n + 1 => by rw [vs_s, vs_s, vs_scale B c f n]; grind
theorem vs_zero {B : Int} {f : Nat → Int} {n : Nat} (h : ∀ i, i < n → f i = 0) : vs B f n = 0 := by
  rw [vs_top (m := 0) (Nat.zero_le n) (fun i _ hi => h i hi)]; rfl
theorem vs_col (B : Int) (g : Nat → Int) (c : Int) {n N : Nat} (hn : n ≤ N) : vs B (fun j => if n ≤ j then c * g (j - n) else 0) N = c * B ^ n * vs B g (N - n) := by
  obtain ⟨M, rfl⟩ := Nat.exists_eq_add_of_le hn
  rw [vs_add, vs_zero (fun i hi => if_neg (by omega)), Nat.add_sub_cancel_left]
  rw [vs_congr (g := fun i => c * g i) (fun i _ => by show (if n ≤ n + i then c * g (n + i - n) else 0) = _; rw [if_pos (by omega), Nat.add_sub_cancel_left]), vs_scale]
  grind
theorem vs_conv (B : Int) (f g : Nat → Int) {m N : Nat} (hg : ∀ i, m ≤ i → i < N → g i = 0) : ∀ n, n + m ≤ N → vs B (fun j => cv f g j (min n (j + 1))) N = vs B f n * vs B g m
  | 0, _ => by
    rw [vs_zero (fun i _ => by rw [Nat.zero_min]; rfl)]
    show (0 : Int) = 0 * _
    omega
  | n + 1, h => by
    have ih := vs_conv B f g hg n (by omega)
    have e : vs B (fun j => cv f g j (min (n + 1) (j + 1))) N = vs B (fun j => cv f g j (min n (j + 1)) + (if n ≤ j then f n * g (j - n) else 0)) N := by
      refine vs_congr (fun j _ => ?_)
      show cv f g j (min (n + 1) (j + 1)) = cv f g j (min n (j + 1)) + (if n ≤ j then f n * g (j - n) else 0)
      by_cases q : n ≤ j
      · rw [if_pos q, Nat.min_eq_left (by omega), Nat.min_eq_left (by omega), cv_s]
      · rw [if_neg q, Nat.min_eq_right (by omega), Nat.min_eq_right (by omega)]; omega
    rw [e, vs_plus, ih, vs_col B g (f n) (by omega), vs_top (f := g) (m := m) (n := N - n) (by omega) (fun i h1 h2 => hg i h1 (by omega)), vs_s]
    grind
theorem cv_zero {f g : Nat → Int} {k : Nat} : ∀ {t : Nat}, (∀ i, i < t → f i * g (k - i) = 0) → cv f g k t = 0
  | 0, _ => rfl
  | t + 1, h => by rw [cv_s, cv_zero (fun i hi => h i (Nat.lt_succ_of_lt hi)), h t (Nat.lt_succ_self t)]; rfl
theorem cv_tail {f g : Nat → Int} {k t : Nat} : ∀ {u : Nat}, t ≤ u → (∀ i, t ≤ i → i < u → f i = 0) → cv f g k u = cv f g k t
  | 0, h, _ => by rw [Nat.le_zero.mp h]
  | u + 1, h, h0 => by
    rcases Nat.lt_or_ge u t with q | q
    · rw [show t = u + 1 by omega]
    · rw [cv_s, cv_tail q (fun i h1 h2 => h0 i h1 (Nat.lt_succ_of_lt h2)), h0 u q (Nat.lt_succ_self u)]; omega
theorem cv_bound {f g : Nat → Int} {N : Nat} (hf : dgs 65536 N f) (hg : dgs 65536 N g) {k : Nat} (hk : k < N) : ∀ {t : Nat}, t ≤ k + 1 → 0 ≤ cv f g k t ∧ cv f g k t ≤ t * 4294836225
  | 0, _ => ⟨Int.le_refl 0, by show (0 : Int) ≤ _; omega⟩
  | t + 1, h => by
    have h1 := cv_bound hf hg hk (t := t) (by omega)
    have a1 := hf t (by omega)
    have a2 := hg (k - t) (by omega)
    have p1 := Int.mul_nonneg a1.1 a2.1
    have p2 : f t * g (k - t) ≤ 65535 * 65535 := Int.mul_le_mul (by omega) (by omega) a2.1 (by decide)
    rw [cv_s]
    omega
theorem zrw_self {Z : ZZ} {j n N : Nat} {f : Nat → Int} (h : n ≤ N) : zrw Z j n f = zrw Z j N (zrw Z j n f j) := by
  funext j' i
  by_cases q : j' = j
  · subst q
    rcases Nat.lt_or_ge i N with w | w
    · rw [zrw_in w]
    · rw [zrw_ge w, zrw_ge (by omega)]
  · rw [zrw_off q, zrw_off q]
end
section
theorem tdiv_sg (z w : Int) : z.tdiv w = z.sign * w.sign * ((z.natAbs : Int) / (w.natAbs : Int)) := by
  rcases sg_cases z with ⟨h1, e1, a1⟩ | ⟨h1, e1, a1⟩ | ⟨h1, e1, a1⟩ <;> rcases sg_cases w with ⟨h2, e2, a2⟩ | ⟨h2, e2, a2⟩ | ⟨h2, e2, a2⟩ <;> rw [e1, e2, a1, a2]
  · rw [← Int.tdiv_eq_ediv_of_nonneg (by omega), Int.neg_tdiv, Int.tdiv_neg]; omega
  · rw [h2]; simp
  · rw [← Int.tdiv_eq_ediv_of_nonneg (by omega), Int.neg_tdiv]; omega
  · rw [h1]; simp
  · rw [h1]; simp
  · rw [h1]; simp
  · rw [← Int.tdiv_eq_ediv_of_nonneg (by omega), Int.tdiv_neg]; omega
  · rw [h2]; simp
  · rw [← Int.tdiv_eq_ediv_of_nonneg (by omega)]; omega
theorem tmod_sg {z w : Int} (hw : w ≠ 0) : z.tmod w = z.sign * ((z.natAbs : Int) % (w.natAbs : Int)) := by
  have h1 := Int.mul_tdiv_add_tmod z w
  have h2 := tdiv_sg z w
  have h3 := Int.mul_ediv_add_emod (z.natAbs : Int) (w.natAbs : Int)
  have h4 := sg_mul z
  have h5 := sg_mul w
  have h6 : w.sign * w.sign = 1 := by
    rcases sg_cases w with ⟨h2, e2, a2⟩ | ⟨h2, e2, a2⟩ | ⟨h2, e2, a2⟩
    · rw [e2]; rfl
    · exact absurd h2 hw
    · rw [e2]; rfl
  generalize (z.natAbs : Int) / (w.natAbs : Int) = q at h2 h3
  generalize (z.natAbs : Int) % (w.natAbs : Int) = r at h3
  rw [h2] at h1
  have h7 : w * (z.sign * w.sign * q) = z.sign * ((w.natAbs : Int) * q) := by
    have e : w * (z.sign * w.sign * q) = w.sign * (w.natAbs : Int) * (z.sign * w.sign * q) := by rw [h5]
    rw [e]
    have e2 : w.sign * (w.natAbs : Int) * (z.sign * w.sign * q) = w.sign * w.sign * (z.sign * ((w.natAbs : Int) * q)) := by grind
    rw [e2, h6, Int.one_mul]
  have h8 : z.sign * ((w.natAbs : Int) * q + r) = z := by rw [h3, h4]
  rw [Int.mul_add] at h8
  omega
theorem vs_upd {B : Int} {f : Nat → Int} {q : Nat} (v : Int) : ∀ {n : Nat}, q < n → vs B (fset f q v) n = vs B f n + (v - f q) * B ^ q
  | 0, h => absurd h (Nat.not_lt_zero q)
  | n + 1, h => by
    by_cases e : q = n
    · subst e
      rw [vs_push, vs_s]
      grind
    · rw [vs_s, vs_s, vs_upd v (show q < n by omega), fset_ne (by omega)]
      omega
theorem dgs_upd {B : Int} {n q : Nat} {f : Nat → Int} {v : Int} (h : dgs B n f) (hv : 0 ≤ v ∧ v < B) : dgs B n (fset f q v) := by
  intro i hi
  by_cases e : i = q
  · rw [e, fset_eq]; exact hv
  · rw [fset_ne e]; exact h i hi
/-- the digit that holds a free bit -/
theorem bit_free {h : Nat → Int} (hd : dgs 65536 2100 h) {q s : Nat} (hq : q < 2100) (hs : s < 16) (hv : vs 65536 h 2100 % 2 ^ (16 * q + s + 1) = 0) : ∃ e : Int, h q = e * ((2 ^ (s + 1) : Nat) : Int) ∧ 0 ≤ h q + ((2 ^ s : Nat) : Int) ∧ h q + ((2 ^ s : Nat) : Int) < 65536 := by
  have hb := hd q hq
  have hdg := vs_digit (B := 65536) (by decide) hq hd
  have hp : (2 : Int) ^ (16 * q + s + 1) = 65536 ^ q * 2 ^ (s + 1) := by
    rw [Nat.add_assoc, Int.pow_add, ← pw_mul]; rfl
  have hdv := Int.mul_ediv_add_emod (vs 65536 h 2100) (2 ^ (16 * q + s + 1))
  rw [hv, hp] at hdv
  have hpq := pw_pos (B := 65536) (by decide) q
  generalize vs 65536 h 2100 / (65536 ^ q * 2 ^ (s + 1)) = w at hdv
  have e1 : vs 65536 h 2100 / 65536 ^ q = 2 ^ (s + 1) * w := by
    rw [← hdv, Int.add_zero, Int.mul_assoc, Int.mul_ediv_cancel_left _ (Int.ne_of_gt hpq)]
  rw [e1] at hdg
  have h16 : (65536 : Int) = 2 ^ (s + 1) * 2 ^ (15 - s) := by
    rw [← Int.pow_add, show s + 1 + (15 - s) = 16 by omega]; rfl
  have e2 : h q = 2 ^ (s + 1) * (w % 2 ^ (15 - s)) := by
    rw [← hdg, h16, Int.mul_emod_mul_of_pos _ _ (pw_pos (by decide) (s + 1))]
  have hl := Int.emod_lt_of_pos w (pw_pos (B := 2) (by decide) (15 - s))
  have hn := Int.emod_nonneg w (Int.ne_of_gt (pw_pos (B := 2) (by decide) (15 - s)))
  have hps := pw_pos (B := 2) (by decide) s
  refine ⟨w % 2 ^ (15 - s), by rw [e2, pw2_cast, Int.mul_comm], ?_, ?_⟩
  · rw [pw2_cast]; omega
  · rw [pw2_cast]
    have h5 := Int.mul_le_mul_of_nonneg_left (show w % 2 ^ (15 - s) + 1 ≤ 2 ^ (15 - s) from hl) (Int.le_of_lt (pw_pos (B := 2) (by decide) (s + 1)))
    rw [← h16, Int.mul_add, ← e2, Int.mul_one, pw_s] at h5
    omega
theorem zrw_comm {Z : ZZ} {j n j2 n2 : Nat} {f f2 : Nat → Int} (h : j ≠ j2) : zrw (zrw Z j n f) j2 n2 f2 = zrw (zrw Z j2 n2 f2) j n f := by
  funext j' i
  unfold zrw
  by_cases h1 : j' = j2 ∧ i < n2
  · rw [if_pos h1, if_neg (fun q => h (q.1.symm.trans h1.1)), if_pos h1]
  · rw [if_neg h1, if_neg h1]
theorem zrw_zrw {Z : ZZ} {j n n2 : Nat} {f f2 : Nat → Int} (h : n ≤ n2) : zrw (zrw Z j n f) j n2 f2 = zrw Z j n2 f2 := by
  funext j' i
  unfold zrw
  by_cases h1 : j' = j ∧ i < n2
  · rw [if_pos h1, if_pos h1]
  · rw [if_neg h1, if_neg h1, if_neg (fun q => h1 ⟨q.1, by omega⟩)]
/-- one step of a division by bits -/
theorem div_step {A b : Int} (hb : 0 < b) {k : Nat} : A / 2 ^ k = 2 * (A / 2 ^ (k + 1)) + A / 2 ^ k % 2 := by
  have h1 : A / 2 ^ (k + 1) = A / 2 ^ k / 2 := by
    rw [pw_s, ← Int.ediv_ediv_of_nonneg (Int.le_of_lt (pw_pos (by decide) k))]
  rw [h1]; omega
theorem div_step2 {A b : Int} (hb : 0 < b) {k : Nat} (hA : 0 ≤ A) : (A / 2 ^ (k + 1) % b * 2 + A / 2 ^ k % 2 < b → A / 2 ^ k % b = A / 2 ^ (k + 1) % b * 2 + A / 2 ^ k % 2 ∧ A / 2 ^ k / b * 2 ^ k = A / 2 ^ (k + 1) / b * 2 ^ (k + 1)) ∧
    (b ≤ A / 2 ^ (k + 1) % b * 2 + A / 2 ^ k % 2 → A / 2 ^ k % b = A / 2 ^ (k + 1) % b * 2 + A / 2 ^ k % 2 - b ∧ A / 2 ^ k / b * 2 ^ k = A / 2 ^ (k + 1) / b * 2 ^ (k + 1) + 2 ^ k) := by
  have h0 := div_step (A := A) hb (k := k)
  have h1 := Int.mul_ediv_add_emod (A / 2 ^ (k + 1)) b
  have h2 := Int.emod_nonneg (A / 2 ^ (k + 1)) (Int.ne_of_gt hb)
  have h3 := Int.emod_lt_of_pos (A / 2 ^ (k + 1)) hb
  have h4 : 0 ≤ A / 2 ^ k % 2 ∧ A / 2 ^ k % 2 < 2 := by omega
  generalize A / 2 ^ k % 2 = t at h0 h4 ⊢
  generalize A / 2 ^ (k + 1) % b = R at h1 h2 h3 ⊢
  generalize A / 2 ^ (k + 1) / b = q at h1 ⊢
  generalize A / 2 ^ (k + 1) = X at h0 h1
  generalize A / 2 ^ k = Y at h0 ⊢
  constructor
  · intro h
    have e : Y = (R * 2 + t) + b * (2 * q) := by grind
    have e1 : Y % b = R * 2 + t := by rw [e, Int.add_mul_emod_self_left]; exact Int.emod_eq_of_lt (by omega) h
    have e2 : Y / b = 2 * q := by rw [e, Int.add_mul_ediv_left _ _ (Int.ne_of_gt hb), Int.ediv_eq_zero_of_lt (by omega) h]; omega
    refine ⟨e1, ?_⟩
    rw [e2, pw_s]; grind
  · intro h
    have e : Y = (R * 2 + t - b) + b * (2 * q + 1) := by grind
    have e1 : Y % b = R * 2 + t - b := by rw [e, Int.add_mul_emod_self_left]; exact Int.emod_eq_of_lt (by omega) (by omega)
    have e2 : Y / b = 2 * q + 1 := by rw [e, Int.add_mul_ediv_left _ _ (Int.ne_of_gt hb), Int.ediv_eq_zero_of_lt (by omega) (by omega)]; omega
    refine ⟨e1, ?_⟩
    rw [e2, pw_s]; grind
theorem zrw_id {Z : ZZ} {j n : Nat} {f : Nat → Int} (h : ∀ i, i < n → f i = Z j i) : zrw Z j n f = Z := by
  funext j' i
  unfold zrw
  by_cases q : j' = j ∧ i < n
  · rw [if_pos q, h i q.2, q.1]
  · rw [if_neg q]
end
section
/-! the reference's smallest methods -/
section M1
variable (l : Launch) (D : va_G) (cI : ClassId) (a : Nat → Nat) (Z : ZZ)
set_option maxRecDepth 20000 in
theorem kX1_thrown : Ct l D (tM cI) (wM cI a) yX1_thrown wsX1_thrown 0 0 0 [.ref (a 0)] Z (fun v Z' => v = some (.int (iZ (Z 0 0))) ∧ Z = Z') nX := by
  refine Ct.of (cc := cX1_thrown) (maxL := 1) (ret := some .int) rfl (by decide) rfl (Nat.le_of_ble_eq_true rfl) (fun J hJ => ?_)
  have hin : ∀ w ∈ u_ws RX1 TX1 3, w ∈ wsX1_thrown := by decide +kernel
  refine j_aload_n hJ dX1_thrown_0 rfl ?_
  refine m_code hJ hin (by decide +kernel) dX1_thrown_1 ?_
  exact j_iret hJ (Nat.le_of_ble_eq_true rfl) (⟨rfl, rfl⟩) dX1_thrown_4
def isR (r : Int) : Int := if 0 ≤ r ∧ r < 12 then 1 else 0
set_option maxRecDepth 20000 in
theorem kX1_isRegister (r : Int) (hr : i32 r) : Ct l D [] wE yX1_isRegister wsX1_isRegister 0 0 0 [.int (iZ r)] () (fun v _ => v = some (.int (iZ (isR r)))) nX := by
  refine Ct.of (cc := cX1_isRegister) (maxL := 1) (ret := some .boolean) rfl (by decide) rfl (Nat.le_of_ble_eq_true rfl) (fun J hJ => ?_)
  refine j_iload_n hJ dX1_isRegister_0 rfl ?_
  refine j_if_lt (tgt := 14) hJ (by decide) ⟨by omega, by omega⟩ dX1_isRegister_1 (fun h1 => ?_) (fun h1 => ?_)
  · refine j_iconst hJ dX1_isRegister_14 ?_
    exact j_zret hJ (by decide) (Nat.le_of_ble_eq_true rfl) (by unfold isR; first | rw [if_pos ⟨by omega, by omega⟩] | rw [if_neg (by omega)]) dX1_isRegister_15
  · refine j_iload_n hJ dX1_isRegister_4 rfl ?_
    refine j_bipush hJ (by decide) dX1_isRegister_5 ?_
    refine j_icmp_ge (tgt := 14) hJ (by decide) ⟨by omega, by omega⟩ ⟨by omega, by omega⟩ dX1_isRegister_7 (fun h7 => ?_) (fun h7 => ?_)
    · refine j_iconst hJ dX1_isRegister_14 ?_
      exact j_zret hJ (by decide) (Nat.le_of_ble_eq_true rfl) (by unfold isR; first | rw [if_pos ⟨by omega, by omega⟩] | rw [if_neg (by omega)]) dX1_isRegister_15
    · refine j_iconst hJ dX1_isRegister_10 ?_
      refine j_goto (tgt := 15) hJ (by decide) dX1_isRegister_11 ?_
      exact j_zret hJ (by decide) (Nat.le_of_ble_eq_true rfl) (by unfold isR; first | rw [if_pos ⟨by omega, by omega⟩] | rw [if_neg (by omega)]) dX1_isRegister_15
set_option maxRecDepth 20000 in
theorem kX1_get (r k : Int) (hr : 0 ≤ r ∧ r < 16) (hk : 0 ≤ k ∧ k < 2100) : Ct l D (tM cI) (wM cI a) yX1_get wsX1_get 0 0 0 [.ref (a 0), .int (iZ r), .int (iZ k)] Z (fun v Z' => v = some (.int (iZ (Z (r.toNat + 2) k.toNat))) ∧ Z = Z') nX := by
  refine Ct.of (cc := cX1_get) (maxL := 3) (ret := some .int) rfl (by decide) rfl (Nat.le_of_ble_eq_true rfl) (fun J hJ => ?_)
  have hin : ∀ w ∈ u_ws RX1 TX1 3, w ∈ wsX1_get := by decide +kernel
  refine j_aload_n hJ dX1_get_0 rfl ?_
  refine m_digits hJ hin (by decide +kernel) dX1_get_1 ?_
  refine j_sipush hJ (by decide) dX1_get_4 ?_
  refine j_iload_n hJ dX1_get_7 rfl ?_
  refine j_imul hJ dX1_get_8 ?_
  refine j_iload_n hJ dX1_get_9 rfl ?_
  refine j_iadd hJ dX1_get_10 ?_
  refine m_ald_dg hJ ⟨by omega, by omega⟩ dX1_get_11 ?_
  exact j_iret hJ (Nat.le_of_ble_eq_true rfl) (⟨by rw [show (2100 * r + k).toNat / 2100 = r.toNat by omega, show (2100 * r + k).toNat % 2100 = k.toNat by omega], rfl⟩) dX1_get_12
set_option maxRecDepth 20000 in
theorem kX1_put (r k v : Int) (hr : 0 ≤ r ∧ r < 16) (hk : 0 ≤ k ∧ k < 2100) : Ct l D (tM cI) (wM cI a) yX1_put wsX1_put 0 0 0 [.ref (a 0), .int (iZ r), .int (iZ k), .int (iZ v)] Z (fun w Z' => w = none ∧ Z' = zup Z (r.toNat + 2) k.toNat v) nX := by
  refine Ct.of (cc := cX1_put) (maxL := 4) (ret := none) rfl (by decide) rfl (Nat.le_of_ble_eq_true rfl) (fun J hJ => ?_)
  have hin : ∀ w ∈ u_ws RX1 TX1 3, w ∈ wsX1_put := by decide +kernel
  refine j_aload_n hJ dX1_put_0 rfl ?_
  refine m_digits hJ hin (by decide +kernel) dX1_put_1 ?_
  refine j_sipush hJ (by decide) dX1_put_4 ?_
  refine j_iload_n hJ dX1_put_7 rfl ?_
  refine j_imul hJ dX1_put_8 ?_
  refine j_iload_n hJ dX1_put_9 rfl ?_
  refine j_iadd hJ dX1_put_10 ?_
  refine j_iload_n hJ dX1_put_11 rfl ?_
  refine m_ast_dg hJ ⟨by omega, by omega⟩ dX1_put_12 ?_
  exact j_vret hJ (Nat.le_of_ble_eq_true rfl) (⟨rfl, by rw [show (2100 * r + k).toNat / 2100 = r.toNat by omega, show (2100 * r + k).toNat % 2100 = k.toNat by omega]⟩) dX1_put_13
def mclr (Z : ZZ) (r : Nat) : ZZ := zup (zrw Z (r + 2) 2100 (fun _ => 0)) 1 r 0
def mmov (Z : ZZ) (r r2 : Nat) : ZZ := zup (zrw Z (r + 2) 2100 (Z (r2 + 2))) 1 r (Z 1 r2)
set_option maxRecDepth 20000 in
theorem kX1_clear (r : Int) (hr : 0 ≤ r ∧ r < 16) : Ct l D (tM cI) (wM cI a) yX1_clear wsX1_clear 1 0 23 [.ref (a 0), .int (iZ r)] Z (fun v Z' => v = none ∧ Z' = mclr Z r.toNat) nX := by
  refine Ct.of (cc := cX1_clear) (maxL := 3) (ret := none) rfl (by decide) rfl (Nat.le_of_ble_eq_true rfl) (fun J hJ => ?_)
  have hin : ∀ w ∈ u_ws RX1 TX1 3, w ∈ wsX1_clear := by decide +kernel
  have loop : ∀ (n : Nat) (i : Int), 0 ≤ i → 2100 - i = n → J (zrw Z (r.toNat + 2) i.toNat (fun _ => 0)) 0 2 [(0, .ref (a 0)), (1, .int (iZ r)), (2, .int (iZ i))] [] := by
    intro n
    induction n with
    | zero =>
      intro i h0 hn
      refine j_iload_n hJ dX1_clear_2 rfl ?_
      refine j_sipush hJ (by decide) dX1_clear_3 ?_
      refine j_icmp_ge (tgt := 22) hJ (by decide) ⟨by omega, by omega⟩ ⟨by omega, by omega⟩ dX1_clear_6 (fun h6 => ?_) (fun h6 => ?_)
      · refine j_aload_n hJ dX1_clear_22 rfl ?_
        refine m_sign hJ hin (by decide +kernel) dX1_clear_23 ?_
        refine j_iload_n hJ dX1_clear_26 rfl ?_
        refine j_iconst hJ dX1_clear_27 ?_
        refine m_ast_sg hJ ⟨by omega, by omega⟩ dX1_clear_28 ?_
        exact j_vret hJ (Nat.le_of_ble_eq_true rfl) (⟨rfl, by rw [show i.toNat = 2100 by omega]; rfl⟩) dX1_clear_29
      · omega
    | succ n ih =>
      intro i h0 hn
      refine j_iload_n hJ dX1_clear_2 rfl ?_
      refine j_sipush hJ (by decide) dX1_clear_3 ?_
      refine j_icmp_ge (tgt := 22) hJ (by decide) ⟨by omega, by omega⟩ ⟨by omega, by omega⟩ dX1_clear_6 (fun h6 => ?_) (fun h6 => ?_)
      · omega
      · refine j_aload_n hJ dX1_clear_9 rfl ?_
        refine j_iload_n hJ dX1_clear_10 rfl ?_
        refine j_iload_n hJ dX1_clear_11 rfl ?_
        refine j_iconst hJ dX1_clear_12 ?_
        refine j_callV hJ (kX1_put l D cI a _ _ _ _ ⟨by omega, by omega⟩ ⟨by omega, by omega⟩) rfl gX1_clear_X1_put rfl hdX1_put rfl ⟨Nat.le_of_ble_eq_true rfl, Nat.le_of_ble_eq_true rfl⟩ (Nat.le_of_ble_eq_true rfl) (Nat.le_of_ble_eq_true rfl) rfl rfl dX1_clear_13 (fun _ _ h => False.elim h) (fun r13 Z13 hp13 => ?_)
        obtain ⟨rfl, rfl⟩ := hp13
        refine j_iinc hJ (by decide) dX1_clear_16 rfl ?_
        refine j_goto (tgt := 2) hJ (by decide) dX1_clear_19 ?_
        rw [zrw_succ Z _ _ (fun _ => 0), show i.toNat + 1 = (i + 1).toNat by omega]
        exact j_re hJ (ih (i + 1) (by omega) (by omega)) ⟨rfl, rfl, rfl, trivial⟩
  refine j_iconst hJ dX1_clear_0 ?_
  refine j_istore_n hJ (by decide) dX1_clear_1 ?_
  have h9 := loop 2100 0 (by omega) (by omega)
  rw [show (0 : Int).toNat = 0 from rfl, zrw_0] at h9
  exact j_re hJ h9 ⟨rfl, rfl, rfl, trivial⟩
set_option maxRecDepth 20000 in
theorem kX1_move (r r2 : Int) (hr : 0 ≤ r ∧ r < 16) (hr2 : 0 ≤ r2 ∧ r2 < 16) : Ct l D (tM cI) (wM cI a) yX1_move wsX1_move 1 0 23 [.ref (a 0), .int (iZ r), .int (iZ r2)] Z (fun v Z' => v = none ∧ Z' = mmov Z r.toNat r2.toNat) nX := by
  refine Ct.of (cc := cX1_move) (maxL := 4) (ret := none) rfl (by decide) rfl (Nat.le_of_ble_eq_true rfl) (fun J hJ => ?_)
  have hin : ∀ w ∈ u_ws RX1 TX1 3, w ∈ wsX1_move := by decide +kernel
  have loop : ∀ (n : Nat) (i : Int), 0 ≤ i → 2100 - i = n → J (zrw Z (r.toNat + 2) i.toNat (Z (r2.toNat + 2))) 0 2 [(0, .ref (a 0)), (1, .int (iZ r)), (2, .int (iZ r2)), (3, .int (iZ i))] [] := by
    intro n
    induction n with
    | zero =>
      intro i h0 hn
      refine j_iload_n hJ dX1_move_2 rfl ?_
      refine j_sipush hJ (by decide) dX1_move_3 ?_
      refine j_icmp_ge (tgt := 27) hJ (by decide) ⟨by omega, by omega⟩ ⟨by omega, by omega⟩ dX1_move_6 (fun h6 => ?_) (fun h6 => ?_)
      · refine j_aload_n hJ dX1_move_27 rfl ?_
        refine m_sign hJ hin (by decide +kernel) dX1_move_28 ?_
        refine j_iload_n hJ dX1_move_31 rfl ?_
        refine j_aload_n hJ dX1_move_32 rfl ?_
        refine m_sign hJ hin (by decide +kernel) dX1_move_33 ?_
        refine j_iload_n hJ dX1_move_36 rfl ?_
        refine m_ald_sg hJ ⟨by omega, by omega⟩ dX1_move_37 ?_
        refine m_ast_sg hJ ⟨by omega, by omega⟩ dX1_move_38 ?_
        exact j_vret hJ (Nat.le_of_ble_eq_true rfl) (⟨rfl, by rw [show i.toNat = 2100 by omega, zrw_off (j' := 1) (by omega)]; rfl⟩) dX1_move_39
      · omega
    | succ n ih =>
      intro i h0 hn
      have hsame : zrw Z (r.toNat + 2) i.toNat (Z (r2.toNat + 2)) (r2.toNat + 2) i.toNat = Z (r2.toNat + 2) i.toNat := by
        by_cases h : r2.toNat = r.toNat
        · rw [h, zrw_ge (Nat.le_refl _)]
        · rw [zrw_off (by omega)]
      refine j_iload_n hJ dX1_move_2 rfl ?_
      refine j_sipush hJ (by decide) dX1_move_3 ?_
      refine j_icmp_ge (tgt := 27) hJ (by decide) ⟨by omega, by omega⟩ ⟨by omega, by omega⟩ dX1_move_6 (fun h6 => ?_) (fun h6 => ?_)
      · omega
      · refine j_aload_n hJ dX1_move_9 rfl ?_
        refine j_iload_n hJ dX1_move_10 rfl ?_
        refine j_iload_n hJ dX1_move_11 rfl ?_
        refine j_aload_n hJ dX1_move_12 rfl ?_
        refine j_iload_n hJ dX1_move_13 rfl ?_
        refine j_iload_n hJ dX1_move_14 rfl ?_
        refine j_callV hJ (kX1_get l D cI a _ _ _ ⟨by omega, by omega⟩ ⟨by omega, by omega⟩) rfl gX1_move_X1_get rfl hdX1_get rfl ⟨Nat.le_of_ble_eq_true rfl, Nat.le_of_ble_eq_true rfl⟩ (Nat.le_of_ble_eq_true rfl) (Nat.le_of_ble_eq_true rfl) rfl rfl dX1_move_15 (fun _ _ h => False.elim h) (fun r15 Z15 hp15 => ?_)
        obtain ⟨rfl, rfl⟩ := hp15
        refine j_callV hJ (kX1_put l D cI a _ _ _ _ ⟨by omega, by omega⟩ ⟨by omega, by omega⟩) rfl gX1_move_X1_put rfl hdX1_put rfl ⟨Nat.le_of_ble_eq_true rfl, Nat.le_of_ble_eq_true rfl⟩ (Nat.le_of_ble_eq_true rfl) (Nat.le_of_ble_eq_true rfl) rfl rfl dX1_move_18 (fun _ _ h => False.elim h) (fun r18 Z18 hp18 => ?_)
        obtain ⟨rfl, rfl⟩ := hp18
        refine j_iinc hJ (by decide) dX1_move_21 rfl ?_
        refine j_goto (tgt := 2) hJ (by decide) dX1_move_24 ?_
        rw [hsame, zrw_succ, show i.toNat + 1 = (i + 1).toNat by omega]
        exact j_re hJ (ih (i + 1) (by omega) (by omega)) ⟨rfl, rfl, rfl, rfl, trivial⟩
  refine j_iconst hJ dX1_move_0 ?_
  refine j_istore_n hJ (by decide) dX1_move_1 ?_
  have h9 := loop 2100 0 (by omega) (by omega)
  rw [show (0 : Int).toNat = 0 from rfl, zrw_0] at h9
  exact j_re hJ h9 ⟨rfl, rfl, rfl, rfl, trivial⟩


set_option maxRecDepth 20000 in
theorem kX1_length (r : Int) (hr : 0 ≤ r ∧ r < 16) (hd : dgs 65536 2100 (Z (r.toNat + 2))) : Ct l D (tM cI) (wM cI a) yX1_length wsX1_length 1 0 22 [.ref (a 0), .int (iZ r)] Z (fun v Z' => v = some (.int (iZ (lenr (Z (r.toNat + 2)) 2100))) ∧ Z = Z') nX := by
  refine Ct.of (cc := cX1_length) (maxL := 3) (ret := some .int) rfl (by decide) rfl (Nat.le_of_ble_eq_true rfl) (fun J hJ => ?_)
  have loop : ∀ (n : Nat), n ≤ 2100 → lenr (Z (r.toNat + 2)) n = lenr (Z (r.toNat + 2)) 2100 → J Z 0 4 [(0, .ref (a 0)), (1, .int (iZ r)), (2, .int (iZ n))] [] := by
    intro n
    induction n with
    | zero =>
      intro h0 hn
      refine j_iload_n hJ dX1_length_4 rfl ?_
      refine j_if_le (tgt := 25) hJ (by decide) ⟨by omega, by omega⟩ dX1_length_5 (fun h5 => ?_) (fun h5 => ?_)
      · refine j_iload_n hJ dX1_length_25 rfl ?_
        exact j_iret hJ (Nat.le_of_ble_eq_true rfl) (⟨by rw [← hn]; rfl, rfl⟩) dX1_length_26
      · omega
    | succ n ih =>
      intro h0 hn
      have hdn := hd n (by omega)
      have e1 : ((((n + 1 : Nat) : Int)) - 1).toNat = n := by omega
      refine j_iload_n hJ dX1_length_4 rfl ?_
      refine j_if_le (tgt := 25) hJ (by decide) ⟨by omega, by omega⟩ dX1_length_5 (fun h5 => absurd h5 (by omega)) (fun h5 => ?_)
      refine j_aload_n hJ dX1_length_8 rfl ?_
      refine j_iload_n hJ dX1_length_9 rfl ?_
      refine j_iload_n hJ dX1_length_10 rfl ?_
      refine j_iconst hJ dX1_length_11 ?_
      refine j_isub hJ dX1_length_12 ?_
      refine j_callV hJ (kX1_get l D cI a _ _ _ ⟨by omega, by omega⟩ ⟨by omega, by omega⟩) rfl gX1_length_X1_get rfl hdX1_get rfl ⟨Nat.le_of_ble_eq_true rfl, Nat.le_of_ble_eq_true rfl⟩ (Nat.le_of_ble_eq_true rfl) (Nat.le_of_ble_eq_true rfl) rfl rfl dX1_length_13 (fun _ _ h => False.elim h) (fun r13 Z13 hp13 => ?_)
      obtain ⟨rfl, rfl⟩ := hp13
      rw [e1]
      rw [lenr_s] at hn
      refine j_if_ne (tgt := 25) hJ (by decide) ⟨by omega, by omega⟩ dX1_length_16 (fun h16 => ?_) (fun h16 => ?_)
      · refine j_iload_n hJ dX1_length_25 rfl ?_
        exact j_iret hJ (Nat.le_of_ble_eq_true rfl) (⟨by rw [if_neg h16] at hn; rw [← hn], rfl⟩) dX1_length_26
      · refine j_iinc hJ (by decide) dX1_length_19 rfl ?_
        refine j_goto (tgt := 4) hJ (by decide) dX1_length_22 ?_
        rw [if_pos h16] at hn
        exact j_re hJ (ih (by omega) hn) ⟨rfl, rfl, by show some (Value.int (iZ (((n + 1 : Nat) : Int) + -1))) = _; rw [show ((n + 1 : Nat) : Int) + -1 = n by omega], trivial⟩
  refine j_sipush hJ (by decide) dX1_length_0 ?_
  refine j_istore_n hJ (by decide) dX1_length_3 ?_
  exact j_re hJ (loop 2100 (by omega) rfl) ⟨rfl, rfl, rfl, trivial⟩
end M1
end
section
section M2
variable (l : Launch) (D : va_G) (cI : ClassId) (a : Nat → Nat) (Z : ZZ)
set_option maxRecDepth 20000 in
theorem kX1_isBelow (r1 r2 n : Int) (h1 : 0 ≤ r1 ∧ r1 < 16) (h2 : 0 ≤ r2 ∧ r2 < 16) (hn : 0 ≤ n ∧ n ≤ 2100) (d1 : dgs 65536 2100 (Z (r1.toNat + 2))) (d2 : dgs 65536 2100 (Z (r2.toNat + 2))) : Ct l D (tM cI) (wM cI a) yX1_isBelow wsX1_isBelow 1 0 22 [.ref (a 0), .int (iZ r1), .int (iZ r2), .int (iZ n)] Z (fun v Z' => v = some (.int (iZ (if vs 65536 (Z (r1.toNat + 2)) n.toNat < vs 65536 (Z (r2.toNat + 2)) n.toNat then 1 else 0))) ∧ Z = Z') nX := by
  refine Ct.of (cc := cX1_isBelow) (maxL := 5) (ret := some .boolean) rfl (by decide) rfl (Nat.le_of_ble_eq_true rfl) (fun J hJ => ?_)
  have loop : ∀ (m : Nat), m ≤ n.toNat → (∀ i, m ≤ i → i < n.toNat → Z (r1.toNat + 2) i = Z (r2.toNat + 2) i) → J Z 0 5 [(0, .ref (a 0)), (1, .int (iZ r1)), (2, .int (iZ r2)), (3, .int (iZ n)), (4, .int (iZ ((m : Int) - 1)))] [] := by
    intro m
    induction m with
    | zero =>
      intro hm he
      refine j_iload hJ dX1_isBelow_5 rfl ?_
      refine j_if_lt (tgt := 56) hJ (by decide) ⟨by omega, by omega⟩ dX1_isBelow_7 (fun h7 => ?_) (fun h7 => ?_)
      · refine j_iconst hJ dX1_isBelow_56 ?_
        exact j_zret hJ (by decide) (Nat.le_of_ble_eq_true rfl) (⟨by rw [if_neg (by rw [vs_congr (fun i hi => he i (Nat.zero_le i) hi)]; omega)], rfl⟩) dX1_isBelow_57
      · omega
    | succ m ih =>
      intro hm he
      have q1 := d1 m (by omega)
      have q2 := d2 m (by omega)
      have e1 : (((m + 1 : Nat) : Int) - 1).toNat = m := by omega
      refine j_iload hJ dX1_isBelow_5 rfl ?_
      refine j_if_lt (tgt := 56) hJ (by decide) ⟨by omega, by omega⟩ dX1_isBelow_7 (fun h7 => ?_) (fun h7 => ?_)
      · omega
      · refine j_aload_n hJ dX1_isBelow_10 rfl ?_
        refine j_iload_n hJ dX1_isBelow_11 rfl ?_
        refine j_iload hJ dX1_isBelow_12 rfl ?_
        refine j_callV hJ (kX1_get l D cI a _ _ _ ⟨by omega, by omega⟩ ⟨by omega, by omega⟩) rfl gX1_isBelow_X1_get rfl hdX1_get rfl ⟨Nat.le_of_ble_eq_true rfl, Nat.le_of_ble_eq_true rfl⟩ (Nat.le_of_ble_eq_true rfl) (Nat.le_of_ble_eq_true rfl) rfl rfl dX1_isBelow_14 (fun _ _ h => False.elim h) (fun r14 Z14 hp14 => ?_)
        obtain ⟨rfl, rfl⟩ := hp14
        rw [e1]
        refine j_aload_n hJ dX1_isBelow_17 rfl ?_
        refine j_iload_n hJ dX1_isBelow_18 rfl ?_
        refine j_iload hJ dX1_isBelow_19 rfl ?_
        refine j_callV hJ (kX1_get l D cI a _ _ _ ⟨by omega, by omega⟩ ⟨by omega, by omega⟩) rfl gX1_isBelow_X1_get rfl hdX1_get rfl ⟨Nat.le_of_ble_eq_true rfl, Nat.le_of_ble_eq_true rfl⟩ (Nat.le_of_ble_eq_true rfl) (Nat.le_of_ble_eq_true rfl) rfl rfl dX1_isBelow_21 (fun _ _ h => False.elim h) (fun r21 Z21 hp21 => ?_)
        obtain ⟨rfl, rfl⟩ := hp21
        rw [e1]
        refine j_icmp_eq (tgt := 50) hJ (by decide) ⟨by omega, by omega⟩ ⟨by omega, by omega⟩ dX1_isBelow_24 (fun h24 => ?_) (fun h24 => ?_)
        · have he2 : ∀ i, m ≤ i → i < n.toNat → Z (r1.toNat + 2) i = Z (r2.toNat + 2) i := fun i a1 a2 => (by by_cases q : i = m; rw [q]; exact h24; exact he i (by omega) a2)
          refine j_iinc hJ (by decide) dX1_isBelow_50 rfl ?_
          refine j_goto (tgt := 5) hJ (by decide) dX1_isBelow_53 ?_
          exact j_re hJ (ih (by omega) he2) ⟨rfl, rfl, rfl, rfl, by show some (Value.int (iZ (((m + 1 : Nat) : Int) - 1 + -1))) = _; rw [show ((m + 1 : Nat) : Int) - 1 + -1 = (m : Int) - 1 by omega], trivial⟩
        · refine j_aload_n hJ dX1_isBelow_27 rfl ?_
          refine j_iload_n hJ dX1_isBelow_28 rfl ?_
          refine j_iload hJ dX1_isBelow_29 rfl ?_
          refine j_callV hJ (kX1_get l D cI a _ _ _ ⟨by omega, by omega⟩ ⟨by omega, by omega⟩) rfl gX1_isBelow_X1_get rfl hdX1_get rfl ⟨Nat.le_of_ble_eq_true rfl, Nat.le_of_ble_eq_true rfl⟩ (Nat.le_of_ble_eq_true rfl) (Nat.le_of_ble_eq_true rfl) rfl rfl dX1_isBelow_31 (fun _ _ h => False.elim h) (fun r31 Z31 hp31 => ?_)
          obtain ⟨rfl, rfl⟩ := hp31
          rw [e1]
          refine j_aload_n hJ dX1_isBelow_34 rfl ?_
          refine j_iload_n hJ dX1_isBelow_35 rfl ?_
          refine j_iload hJ dX1_isBelow_36 rfl ?_
          refine j_callV hJ (kX1_get l D cI a _ _ _ ⟨by omega, by omega⟩ ⟨by omega, by omega⟩) rfl gX1_isBelow_X1_get rfl hdX1_get rfl ⟨Nat.le_of_ble_eq_true rfl, Nat.le_of_ble_eq_true rfl⟩ (Nat.le_of_ble_eq_true rfl) (Nat.le_of_ble_eq_true rfl) rfl rfl dX1_isBelow_38 (fun _ _ h => False.elim h) (fun r38 Z38 hp38 => ?_)
          obtain ⟨rfl, rfl⟩ := hp38
          rw [e1]
          refine j_icmp_ge (tgt := 48) hJ (by decide) ⟨by omega, by omega⟩ ⟨by omega, by omega⟩ dX1_isBelow_41 (fun h41 => ?_) (fun h41 => ?_)
          · refine j_iconst hJ dX1_isBelow_48 ?_
            exact j_zret hJ (by decide) (Nat.le_of_ble_eq_true rfl) (⟨by first | rw [if_pos (vs_cmp (by decide) (dgs_mono d1 (by omega)) (dgs_mono d2 (by omega)) (k := m) (by omega) (fun i a1 a2 => he i a1 a2) (by omega))] | rw [if_neg (Int.not_lt.mpr (Int.le_of_lt (vs_cmp (by decide) (dgs_mono d2 (by omega)) (dgs_mono d1 (by omega)) (k := m) (by omega) (fun i a1 a2 => (he i a1 a2).symm) (by omega))))], rfl⟩) dX1_isBelow_49
          · refine j_iconst hJ dX1_isBelow_44 ?_
            refine j_goto (tgt := 49) hJ (by decide) dX1_isBelow_45 ?_
            exact j_zret hJ (by decide) (Nat.le_of_ble_eq_true rfl) (⟨by first | rw [if_pos (vs_cmp (by decide) (dgs_mono d1 (by omega)) (dgs_mono d2 (by omega)) (k := m) (by omega) (fun i a1 a2 => he i a1 a2) (by omega))] | rw [if_neg (Int.not_lt.mpr (Int.le_of_lt (vs_cmp (by decide) (dgs_mono d2 (by omega)) (dgs_mono d1 (by omega)) (k := m) (by omega) (fun i a1 a2 => (he i a1 a2).symm) (by omega))))], rfl⟩) dX1_isBelow_49
  refine j_iload_n hJ dX1_isBelow_0 rfl ?_
  refine j_iconst hJ dX1_isBelow_1 ?_
  refine j_isub hJ dX1_isBelow_2 ?_
  refine j_istore hJ (by decide) dX1_isBelow_3 ?_
  exact j_re hJ (loop n.toNat (by omega) (fun i a1 a2 => by omega)) ⟨rfl, rfl, rfl, rfl, by show some (Value.int (iZ (n - 1))) = _; rw [show ((n.toNat : Nat) : Int) - 1 = n - 1 by omega], trivial⟩
set_option maxRecDepth 20000 in
theorem kX1_order (r1 r2 : Int) (h1 : 0 ≤ r1 ∧ r1 < 16) (h2 : 0 ≤ r2 ∧ r2 < 16) (d1 : dgs 65536 2100 (Z (r1.toNat + 2))) (d2 : dgs 65536 2100 (Z (r2.toNat + 2))) : Ct l D (tM cI) (wM cI a) yX1_order wsX1_order 1 0 22 [.ref (a 0), .int (iZ r1), .int (iZ r2)] Z (fun v Z' => v = some (.int (iZ (cz (vs 65536 (Z (r1.toNat + 2)) 2100) (vs 65536 (Z (r2.toNat + 2)) 2100)))) ∧ Z = Z') nX := by
  refine Ct.of (cc := cX1_order) (maxL := 4) (ret := some .int) rfl (by decide) rfl (Nat.le_of_ble_eq_true rfl) (fun J hJ => ?_)
  have hc := cz_spec (vs 65536 (Z (r1.toNat + 2)) 2100) (vs 65536 (Z (r2.toNat + 2)) 2100)
  generalize hz : cz (vs 65536 (Z (r1.toNat + 2)) 2100) (vs 65536 (Z (r2.toNat + 2)) 2100) = z at hc hJ
  have loop : ∀ (m : Nat), m ≤ 2100 → (∀ i, m ≤ i → i < 2100 → Z (r1.toNat + 2) i = Z (r2.toNat + 2) i) → J Z 0 4 [(0, .ref (a 0)), (1, .int (iZ r1)), (2, .int (iZ r2)), (3, .int (iZ ((m : Int) - 1)))] [] := by
    intro m
    induction m with
    | zero =>
      intro hm he
      have hv := vs_congr (B := 65536) (fun i hi => he i (Nat.zero_le i) hi)
      refine j_iload_n hJ dX1_order_4 rfl ?_
      refine j_if_lt (tgt := 50) hJ (by decide) ⟨by omega, by omega⟩ dX1_order_5 (fun h5 => ?_) (fun h5 => ?_)
      · refine j_iconst hJ dX1_order_50 ?_
        exact j_iret hJ (Nat.le_of_ble_eq_true rfl) (⟨by rw [show z = 0 by omega], rfl⟩) dX1_order_51
      · omega
    | succ m ih =>
      intro hm he
      have q1 := d1 m (by omega)
      have q2 := d2 m (by omega)
      have e1 : (((m + 1 : Nat) : Int) - 1).toNat = m := by omega
      have p1 := vs_cmp (B := 65536) (by decide) d1 d2 (k := m) (by omega) (fun i a1 a2 => he i a1 a2)
      have p2 := vs_cmp (B := 65536) (by decide) d2 d1 (k := m) (by omega) (fun i a1 a2 => (he i a1 a2).symm)
      refine j_iload_n hJ dX1_order_4 rfl ?_
      refine j_if_lt (tgt := 50) hJ (by decide) ⟨by omega, by omega⟩ dX1_order_5 (fun h5 => ?_) (fun h5 => ?_)
      · omega
      · refine j_aload_n hJ dX1_order_8 rfl ?_
        refine j_iload_n hJ dX1_order_9 rfl ?_
        refine j_iload_n hJ dX1_order_10 rfl ?_
        refine j_callV hJ (kX1_get l D cI a _ _ _ ⟨by omega, by omega⟩ ⟨by omega, by omega⟩) rfl gX1_order_X1_get rfl hdX1_get rfl ⟨Nat.le_of_ble_eq_true rfl, Nat.le_of_ble_eq_true rfl⟩ (Nat.le_of_ble_eq_true rfl) (Nat.le_of_ble_eq_true rfl) rfl rfl dX1_order_11 (fun _ _ h => False.elim h) (fun r11 Z11 hp11 => ?_)
        obtain ⟨rfl, rfl⟩ := hp11
        rw [e1]
        refine j_aload_n hJ dX1_order_14 rfl ?_
        refine j_iload_n hJ dX1_order_15 rfl ?_
        refine j_iload_n hJ dX1_order_16 rfl ?_
        refine j_callV hJ (kX1_get l D cI a _ _ _ ⟨by omega, by omega⟩ ⟨by omega, by omega⟩) rfl gX1_order_X1_get rfl hdX1_get rfl ⟨Nat.le_of_ble_eq_true rfl, Nat.le_of_ble_eq_true rfl⟩ (Nat.le_of_ble_eq_true rfl) (Nat.le_of_ble_eq_true rfl) rfl rfl dX1_order_17 (fun _ _ h => False.elim h) (fun r17 Z17 hp17 => ?_)
        obtain ⟨rfl, rfl⟩ := hp17
        rw [e1]
        refine j_icmp_eq (tgt := 44) hJ (by decide) ⟨by omega, by omega⟩ ⟨by omega, by omega⟩ dX1_order_20 (fun h20 => ?_) (fun h20 => ?_)
        · have he2 : ∀ i, m ≤ i → i < 2100 → Z (r1.toNat + 2) i = Z (r2.toNat + 2) i := fun i a1 a2 => (by by_cases q : i = m; rw [q]; exact h20; exact he i (by omega) a2)
          refine j_iinc hJ (by decide) dX1_order_44 rfl ?_
          refine j_goto (tgt := 4) hJ (by decide) dX1_order_47 ?_
          exact j_re hJ (ih (by omega) he2) ⟨rfl, rfl, rfl, by show some (Value.int (iZ (((m + 1 : Nat) : Int) - 1 + -1))) = _; rw [show ((m + 1 : Nat) : Int) - 1 + -1 = (m : Int) - 1 by omega], trivial⟩
        · refine j_aload_n hJ dX1_order_23 rfl ?_
          refine j_iload_n hJ dX1_order_24 rfl ?_
          refine j_iload_n hJ dX1_order_25 rfl ?_
          refine j_callV hJ (kX1_get l D cI a _ _ _ ⟨by omega, by omega⟩ ⟨by omega, by omega⟩) rfl gX1_order_X1_get rfl hdX1_get rfl ⟨Nat.le_of_ble_eq_true rfl, Nat.le_of_ble_eq_true rfl⟩ (Nat.le_of_ble_eq_true rfl) (Nat.le_of_ble_eq_true rfl) rfl rfl dX1_order_26 (fun _ _ h => False.elim h) (fun r26 Z26 hp26 => ?_)
          obtain ⟨rfl, rfl⟩ := hp26
          rw [e1]
          refine j_aload_n hJ dX1_order_29 rfl ?_
          refine j_iload_n hJ dX1_order_30 rfl ?_
          refine j_iload_n hJ dX1_order_31 rfl ?_
          refine j_callV hJ (kX1_get l D cI a _ _ _ ⟨by omega, by omega⟩ ⟨by omega, by omega⟩) rfl gX1_order_X1_get rfl hdX1_get rfl ⟨Nat.le_of_ble_eq_true rfl, Nat.le_of_ble_eq_true rfl⟩ (Nat.le_of_ble_eq_true rfl) (Nat.le_of_ble_eq_true rfl) rfl rfl dX1_order_32 (fun _ _ h => False.elim h) (fun r32 Z32 hp32 => ?_)
          obtain ⟨rfl, rfl⟩ := hp32
          rw [e1]
          refine j_icmp_ge (tgt := 42) hJ (by decide) ⟨by omega, by omega⟩ ⟨by omega, by omega⟩ dX1_order_35 (fun h35 => ?_) (fun h35 => ?_)
          · refine j_iconst hJ dX1_order_42 ?_
            exact j_iret hJ (Nat.le_of_ble_eq_true rfl) (⟨by first | (have p3 := p1 (by omega); rw [show z = -1 by omega]) | (have p3 := p2 (by omega); rw [show z = 1 by omega]), rfl⟩) dX1_order_43
          · refine j_iconst hJ dX1_order_38 ?_
            refine j_goto (tgt := 43) hJ (by decide) dX1_order_39 ?_
            exact j_iret hJ (Nat.le_of_ble_eq_true rfl) (⟨by first | (have p3 := p1 (by omega); rw [show z = -1 by omega]) | (have p3 := p2 (by omega); rw [show z = 1 by omega]), rfl⟩) dX1_order_43
  refine j_sipush hJ (by decide) dX1_order_0 ?_
  refine j_istore_n hJ (by decide) dX1_order_3 ?_
  exact j_re hJ (loop 2100 (by omega) (fun i a1 a2 => by omega)) ⟨rfl, rfl, rfl, rfl, trivial⟩
end M2
end
section
section M3
variable (l : Launch) (D : va_G) (cI : ClassId) (a : Nat → Nat) (Z : ZZ)
set_option maxRecDepth 20000 in
theorem kX1_less (r r1 r2 : Int) (h0 : 0 ≤ r ∧ r < 16) (h1 : 0 ≤ r1 ∧ r1 < 16) (h2 : 0 ≤ r2 ∧ r2 < 16) (hn1 : r ≠ r1) (hn2 : r ≠ r2) (d1 : dgs 65536 2100 (Z (r1.toNat + 2))) (d2 : dgs 65536 2100 (Z (r2.toNat + 2))) (hle : vs 65536 (Z (r2.toNat + 2)) 2100 ≤ vs 65536 (Z (r1.toNat + 2)) 2100) :
    Ct l D (tM cI) (wM cI a) yX1_less wsX1_less 1 0 23 [.ref (a 0), .int (iZ r), .int (iZ r1), .int (iZ r2)] Z (fun v Z' => v = none ∧ ∃ f, Z' = zrw Z (r.toNat + 2) 2100 f ∧ dgs 65536 2100 f ∧ vs 65536 f 2100 = vs 65536 (Z (r1.toNat + 2)) 2100 - vs 65536 (Z (r2.toNat + 2)) 2100) nX := by
  refine Ct.of (cc := cX1_less) (maxL := 7) (ret := none) rfl (by decide) rfl (Nat.le_of_ble_eq_true rfl) (fun J hJ => ?_)
  have loop : ∀ (m n : Nat) (f : Nat → Int) (c : Int), n + m = 2100 → dgs 65536 n f → (c = 0 ∨ c = 1) → vs 65536 f n = vs 65536 (Z (r1.toNat + 2)) n - vs 65536 (Z (r2.toNat + 2)) n + c * 65536 ^ n → J (zrw Z (r.toNat + 2) n f) 0 6 [(0, .ref (a 0)), (1, .int (iZ r)), (2, .int (iZ r1)), (3, .int (iZ r2)), (4, .int (iZ c)), (5, .int (iZ n))] [] := by
    intro m
    induction m with
    | zero =>
      intro n f c hm hd hc hv
      have hn : n = 2100 := by omega
      subst hn
      have hlt := vs_lt (B := 65536) (by decide) hd
      have hc0 : c = 0 := by
        rcases hc with q | q
        · exact q
        · rw [q] at hv; omega
      rw [hc0] at hv
      refine j_iload hJ dX1_less_6 rfl ?_
      refine j_sipush hJ (by decide) dX1_less_8 ?_
      refine j_icmp_ge (tgt := 67) hJ (by decide) ⟨by omega, by omega⟩ ⟨by omega, by omega⟩ dX1_less_11 (fun h11 => ?_) (fun h11 => ?_)
      · exact j_vret hJ (Nat.le_of_ble_eq_true rfl) (⟨rfl, f, rfl, hd, by omega⟩) dX1_less_67
      · omega
    | succ m ih =>
      intro n f c hm hd hc hv
      have q1 := d1 n (by omega)
      have q2 := d2 n (by omega)
      have e1 : zrw Z (r.toNat + 2) n f (r1.toNat + 2) = Z (r1.toNat + 2) := zrw_off (by omega)
      have e2 : zrw Z (r.toNat + 2) n f (r2.toNat + 2) = Z (r2.toNat + 2) := zrw_off (by omega)
      have e3 : ((n : Nat) : Int).toNat = n := by omega
      refine j_iload hJ dX1_less_6 rfl ?_
      refine j_sipush hJ (by decide) dX1_less_8 ?_
      refine j_icmp_ge (tgt := 67) hJ (by decide) ⟨by omega, by omega⟩ ⟨by omega, by omega⟩ dX1_less_11 (fun h11 => ?_) (fun h11 => ?_)
      · omega
      · refine j_aload_n hJ dX1_less_14 rfl ?_
        refine j_iload_n hJ dX1_less_15 rfl ?_
        refine j_iload hJ dX1_less_16 rfl ?_
        refine j_callV hJ (kX1_get l D cI a _ _ _ ⟨by omega, by omega⟩ ⟨by omega, by omega⟩) rfl gX1_less_X1_get rfl hdX1_get rfl ⟨Nat.le_of_ble_eq_true rfl, Nat.le_of_ble_eq_true rfl⟩ (Nat.le_of_ble_eq_true rfl) (Nat.le_of_ble_eq_true rfl) rfl rfl dX1_less_18 (fun _ _ h => False.elim h) (fun r18 Z18 hp18 => ?_)
        obtain ⟨rfl, rfl⟩ := hp18
        rw [e1, e3]
        refine j_aload_n hJ dX1_less_21 rfl ?_
        refine j_iload_n hJ dX1_less_22 rfl ?_
        refine j_iload hJ dX1_less_23 rfl ?_
        refine j_callV hJ (kX1_get l D cI a _ _ _ ⟨by omega, by omega⟩ ⟨by omega, by omega⟩) rfl gX1_less_X1_get rfl hdX1_get rfl ⟨Nat.le_of_ble_eq_true rfl, Nat.le_of_ble_eq_true rfl⟩ (Nat.le_of_ble_eq_true rfl) (Nat.le_of_ble_eq_true rfl) rfl rfl dX1_less_25 (fun _ _ h => False.elim h) (fun r25 Z25 hp25 => ?_)
        obtain ⟨rfl, rfl⟩ := hp25
        rw [e2, e3]
        refine j_isub hJ dX1_less_28 ?_
        refine j_iload hJ dX1_less_29 rfl ?_
        refine j_isub hJ dX1_less_31 ?_
        refine j_istore hJ (by decide) dX1_less_32 ?_
        refine j_iload hJ dX1_less_34 rfl ?_
        refine j_if_ge (tgt := 43) hJ (by decide) ⟨by omega, by omega⟩ dX1_less_36 (fun h36 => ?_) (fun h36 => ?_)
        · refine j_iconst hJ dX1_less_43 ?_
          refine j_istore hJ (by decide) dX1_less_44 ?_
          refine j_aload_n hJ dX1_less_46 rfl ?_
          refine j_iload_n hJ dX1_less_47 rfl ?_
          refine j_iload hJ dX1_less_48 rfl ?_
          refine j_iload hJ dX1_less_50 rfl ?_
          refine j_iload hJ dX1_less_52 rfl ?_
          refine j_bipush hJ (by decide) dX1_less_54 ?_
          refine j_ishl (n := 16) hJ (by decide) dX1_less_56 ?_
          refine j_iadd hJ dX1_less_57 ?_
          refine j_callV hJ (kX1_put l D cI a _ _ _ _ ⟨by omega, by omega⟩ ⟨by omega, by omega⟩) rfl gX1_less_X1_put rfl hdX1_put rfl ⟨Nat.le_of_ble_eq_true rfl, Nat.le_of_ble_eq_true rfl⟩ (Nat.le_of_ble_eq_true rfl) (Nat.le_of_ble_eq_true rfl) rfl rfl dX1_less_58 (fun _ _ h => False.elim h) (fun r58 Z58 hp58 => ?_)
          obtain ⟨rfl, rfl⟩ := hp58
          rw [e3, zrw_push]
          refine j_iinc hJ (by decide) dX1_less_61 rfl ?_
          refine j_goto (tgt := 6) hJ (by decide) dX1_less_64 ?_
          first | exact j_re hJ (ih (n + 1) _ 0 (by omega) (dgs_push hd ⟨by omega, by omega⟩) (Or.inl rfl) (by rw [vs_push, vs_s, vs_s, pw_s, hv]; grind)) ⟨rfl, rfl, rfl, rfl, rfl, rfl, trivial⟩ | exact j_re hJ (ih (n + 1) _ 1 (by omega) (dgs_push hd ⟨by omega, by omega⟩) (Or.inr rfl) (by rw [vs_push, vs_s, vs_s, pw_s, hv]; grind)) ⟨rfl, rfl, rfl, rfl, rfl, rfl, trivial⟩
        · refine j_iconst hJ dX1_less_39 ?_
          refine j_goto (tgt := 44) hJ (by decide) dX1_less_40 ?_
          refine j_istore hJ (by decide) dX1_less_44 ?_
          refine j_aload_n hJ dX1_less_46 rfl ?_
          refine j_iload_n hJ dX1_less_47 rfl ?_
          refine j_iload hJ dX1_less_48 rfl ?_
          refine j_iload hJ dX1_less_50 rfl ?_
          refine j_iload hJ dX1_less_52 rfl ?_
          refine j_bipush hJ (by decide) dX1_less_54 ?_
          refine j_ishl (n := 16) hJ (by decide) dX1_less_56 ?_
          refine j_iadd hJ dX1_less_57 ?_
          refine j_callV hJ (kX1_put l D cI a _ _ _ _ ⟨by omega, by omega⟩ ⟨by omega, by omega⟩) rfl gX1_less_X1_put rfl hdX1_put rfl ⟨Nat.le_of_ble_eq_true rfl, Nat.le_of_ble_eq_true rfl⟩ (Nat.le_of_ble_eq_true rfl) (Nat.le_of_ble_eq_true rfl) rfl rfl dX1_less_58 (fun _ _ h => False.elim h) (fun r58 Z58 hp58 => ?_)
          obtain ⟨rfl, rfl⟩ := hp58
          rw [e3, zrw_push]
          refine j_iinc hJ (by decide) dX1_less_61 rfl ?_
          refine j_goto (tgt := 6) hJ (by decide) dX1_less_64 ?_
          first | exact j_re hJ (ih (n + 1) _ 0 (by omega) (dgs_push hd ⟨by omega, by omega⟩) (Or.inl rfl) (by rw [vs_push, vs_s, vs_s, pw_s, hv]; grind)) ⟨rfl, rfl, rfl, rfl, rfl, rfl, trivial⟩ | exact j_re hJ (ih (n + 1) _ 1 (by omega) (dgs_push hd ⟨by omega, by omega⟩) (Or.inr rfl) (by rw [vs_push, vs_s, vs_s, pw_s, hv]; grind)) ⟨rfl, rfl, rfl, rfl, rfl, rfl, trivial⟩
  refine j_iconst hJ dX1_less_0 ?_
  refine j_istore hJ (by decide) dX1_less_1 ?_
  refine j_iconst hJ dX1_less_3 ?_
  refine j_istore hJ (by decide) dX1_less_4 ?_
  have h9 := loop 2100 0 (fun _ => 0) 0 (by omega) (dgs_0 _ _) (Or.inl rfl) (by show (0 : Int) = 0 - 0 + 0 * 65536 ^ 0; decide)
  rw [zrw_0] at h9
  exact j_re hJ h9 ⟨rfl, rfl, rfl, rfl, rfl, rfl, trivial⟩
set_option maxRecDepth 20000 in
theorem kX1_lessBy (r1 r2 n9 : Int) (h1 : 0 ≤ r1 ∧ r1 < 16) (h2 : 0 ≤ r2 ∧ r2 < 16) (hn9 : 0 ≤ n9 ∧ n9 ≤ 2100) (hn2 : r1 ≠ r2) (d1 : dgs 65536 2100 (Z (r1.toNat + 2))) (d2 : dgs 65536 2100 (Z (r2.toNat + 2))) (hle : vs 65536 (Z (r2.toNat + 2)) n9.toNat ≤ vs 65536 (Z (r1.toNat + 2)) n9.toNat) :
    Ct l D (tM cI) (wM cI a) yX1_lessBy wsX1_lessBy 1 0 23 [.ref (a 0), .int (iZ r1), .int (iZ r2), .int (iZ n9)] Z (fun v Z' => v = none ∧ ∃ f, Z' = zrw Z (r1.toNat + 2) n9.toNat f ∧ dgs 65536 n9.toNat f ∧ vs 65536 f n9.toNat = vs 65536 (Z (r1.toNat + 2)) n9.toNat - vs 65536 (Z (r2.toNat + 2)) n9.toNat) nX := by
  refine Ct.of (cc := cX1_lessBy) (maxL := 7) (ret := none) rfl (by decide) rfl (Nat.le_of_ble_eq_true rfl) (fun J hJ => ?_)
  have loop : ∀ (m n : Nat) (f : Nat → Int) (c : Int), n + m = n9.toNat → dgs 65536 n f → (c = 0 ∨ c = 1) → vs 65536 f n = vs 65536 (Z (r1.toNat + 2)) n - vs 65536 (Z (r2.toNat + 2)) n + c * 65536 ^ n → J (zrw Z (r1.toNat + 2) n f) 0 6 [(0, .ref (a 0)), (1, .int (iZ r1)), (2, .int (iZ r2)), (3, .int (iZ n9)), (4, .int (iZ c)), (5, .int (iZ n))] [] := by
    intro m
    induction m with
    | zero =>
      intro n f c hm hd hc hv
      have hn : n = n9.toNat := by omega
      rw [hn] at hd hv ⊢
      have hlt := vs_lt (B := 65536) (by decide) hd
      have hc0 : c = 0 := by
        rcases hc with q | q
        · exact q
        · rw [q] at hv; omega
      rw [hc0] at hv
      refine j_iload hJ dX1_lessBy_6 rfl ?_
      refine j_iload_n hJ dX1_lessBy_8 rfl ?_
      refine j_icmp_ge (tgt := 65) hJ (by decide) ⟨by omega, by omega⟩ ⟨by omega, by omega⟩ dX1_lessBy_9 (fun h9 => ?_) (fun h9 => ?_)
      · exact j_vret hJ (Nat.le_of_ble_eq_true rfl) (⟨rfl, f, rfl, hd, by omega⟩) dX1_lessBy_65
      · omega
    | succ m ih =>
      intro n f c hm hd hc hv
      have q1 := d1 n (by omega)
      have q2 := d2 n (by omega)
      have e1 : zrw Z (r1.toNat + 2) n f (r1.toNat + 2) n = Z (r1.toNat + 2) n := zrw_ge (Nat.le_refl n)
      have e2 : zrw Z (r1.toNat + 2) n f (r2.toNat + 2) = Z (r2.toNat + 2) := zrw_off (by omega)
      have e3 : ((n : Nat) : Int).toNat = n := by omega
      refine j_iload hJ dX1_lessBy_6 rfl ?_
      refine j_iload_n hJ dX1_lessBy_8 rfl ?_
      refine j_icmp_ge (tgt := 65) hJ (by decide) ⟨by omega, by omega⟩ ⟨by omega, by omega⟩ dX1_lessBy_9 (fun h9 => ?_) (fun h9 => ?_)
      · omega
      · refine j_aload_n hJ dX1_lessBy_12 rfl ?_
        refine j_iload_n hJ dX1_lessBy_13 rfl ?_
        refine j_iload hJ dX1_lessBy_14 rfl ?_
        refine j_callV hJ (kX1_get l D cI a _ _ _ ⟨by omega, by omega⟩ ⟨by omega, by omega⟩) rfl gX1_lessBy_X1_get rfl hdX1_get rfl ⟨Nat.le_of_ble_eq_true rfl, Nat.le_of_ble_eq_true rfl⟩ (Nat.le_of_ble_eq_true rfl) (Nat.le_of_ble_eq_true rfl) rfl rfl dX1_lessBy_16 (fun _ _ h => False.elim h) (fun r16 Z16 hp16 => ?_)
        obtain ⟨rfl, rfl⟩ := hp16
        rw [e3, e1]
        refine j_aload_n hJ dX1_lessBy_19 rfl ?_
        refine j_iload_n hJ dX1_lessBy_20 rfl ?_
        refine j_iload hJ dX1_lessBy_21 rfl ?_
        refine j_callV hJ (kX1_get l D cI a _ _ _ ⟨by omega, by omega⟩ ⟨by omega, by omega⟩) rfl gX1_lessBy_X1_get rfl hdX1_get rfl ⟨Nat.le_of_ble_eq_true rfl, Nat.le_of_ble_eq_true rfl⟩ (Nat.le_of_ble_eq_true rfl) (Nat.le_of_ble_eq_true rfl) rfl rfl dX1_lessBy_23 (fun _ _ h => False.elim h) (fun r23 Z23 hp23 => ?_)
        obtain ⟨rfl, rfl⟩ := hp23
        rw [e2, e3]
        refine j_isub hJ dX1_lessBy_26 ?_
        refine j_iload hJ dX1_lessBy_27 rfl ?_
        refine j_isub hJ dX1_lessBy_29 ?_
        refine j_istore hJ (by decide) dX1_lessBy_30 ?_
        refine j_iload hJ dX1_lessBy_32 rfl ?_
        refine j_if_ge (tgt := 41) hJ (by decide) ⟨by omega, by omega⟩ dX1_lessBy_34 (fun h34 => ?_) (fun h34 => ?_)
        · refine j_iconst hJ dX1_lessBy_41 ?_
          refine j_istore hJ (by decide) dX1_lessBy_42 ?_
          refine j_aload_n hJ dX1_lessBy_44 rfl ?_
          refine j_iload_n hJ dX1_lessBy_45 rfl ?_
          refine j_iload hJ dX1_lessBy_46 rfl ?_
          refine j_iload hJ dX1_lessBy_48 rfl ?_
          refine j_iload hJ dX1_lessBy_50 rfl ?_
          refine j_bipush hJ (by decide) dX1_lessBy_52 ?_
          refine j_ishl (n := 16) hJ (by decide) dX1_lessBy_54 ?_
          refine j_iadd hJ dX1_lessBy_55 ?_
          refine j_callV hJ (kX1_put l D cI a _ _ _ _ ⟨by omega, by omega⟩ ⟨by omega, by omega⟩) rfl gX1_lessBy_X1_put rfl hdX1_put rfl ⟨Nat.le_of_ble_eq_true rfl, Nat.le_of_ble_eq_true rfl⟩ (Nat.le_of_ble_eq_true rfl) (Nat.le_of_ble_eq_true rfl) rfl rfl dX1_lessBy_56 (fun _ _ h => False.elim h) (fun r56 Z56 hp56 => ?_)
          obtain ⟨rfl, rfl⟩ := hp56
          rw [e3, zrw_push]
          refine j_iinc hJ (by decide) dX1_lessBy_59 rfl ?_
          refine j_goto (tgt := 6) hJ (by decide) dX1_lessBy_62 ?_
          first | exact j_re hJ (ih (n + 1) _ 0 (by omega) (dgs_push hd ⟨by omega, by omega⟩) (Or.inl rfl) (by rw [vs_push, vs_s, vs_s, pw_s, hv]; grind)) ⟨rfl, rfl, rfl, rfl, rfl, rfl, trivial⟩ | exact j_re hJ (ih (n + 1) _ 1 (by omega) (dgs_push hd ⟨by omega, by omega⟩) (Or.inr rfl) (by rw [vs_push, vs_s, vs_s, pw_s, hv]; grind)) ⟨rfl, rfl, rfl, rfl, rfl, rfl, trivial⟩
        · refine j_iconst hJ dX1_lessBy_37 ?_
          refine j_goto (tgt := 42) hJ (by decide) dX1_lessBy_38 ?_
          refine j_istore hJ (by decide) dX1_lessBy_42 ?_
          refine j_aload_n hJ dX1_lessBy_44 rfl ?_
          refine j_iload_n hJ dX1_lessBy_45 rfl ?_
          refine j_iload hJ dX1_lessBy_46 rfl ?_
          refine j_iload hJ dX1_lessBy_48 rfl ?_
          refine j_iload hJ dX1_lessBy_50 rfl ?_
          refine j_bipush hJ (by decide) dX1_lessBy_52 ?_
          refine j_ishl (n := 16) hJ (by decide) dX1_lessBy_54 ?_
          refine j_iadd hJ dX1_lessBy_55 ?_
          refine j_callV hJ (kX1_put l D cI a _ _ _ _ ⟨by omega, by omega⟩ ⟨by omega, by omega⟩) rfl gX1_lessBy_X1_put rfl hdX1_put rfl ⟨Nat.le_of_ble_eq_true rfl, Nat.le_of_ble_eq_true rfl⟩ (Nat.le_of_ble_eq_true rfl) (Nat.le_of_ble_eq_true rfl) rfl rfl dX1_lessBy_56 (fun _ _ h => False.elim h) (fun r56 Z56 hp56 => ?_)
          obtain ⟨rfl, rfl⟩ := hp56
          rw [e3, zrw_push]
          refine j_iinc hJ (by decide) dX1_lessBy_59 rfl ?_
          refine j_goto (tgt := 6) hJ (by decide) dX1_lessBy_62 ?_
          first | exact j_re hJ (ih (n + 1) _ 0 (by omega) (dgs_push hd ⟨by omega, by omega⟩) (Or.inl rfl) (by rw [vs_push, vs_s, vs_s, pw_s, hv]; grind)) ⟨rfl, rfl, rfl, rfl, rfl, rfl, trivial⟩ | exact j_re hJ (ih (n + 1) _ 1 (by omega) (dgs_push hd ⟨by omega, by omega⟩) (Or.inr rfl) (by rw [vs_push, vs_s, vs_s, pw_s, hv]; grind)) ⟨rfl, rfl, rfl, rfl, rfl, rfl, trivial⟩
  refine j_iconst hJ dX1_lessBy_0 ?_
  refine j_istore hJ (by decide) dX1_lessBy_1 ?_
  refine j_iconst hJ dX1_lessBy_3 ?_
  refine j_istore hJ (by decide) dX1_lessBy_4 ?_
  have h9 := loop n9.toNat 0 (fun _ => 0) 0 (by omega) (dgs_0 _ _) (Or.inl rfl) (by show (0 : Int) = 0 - 0 + 0 * 65536 ^ 0; decide)
  rw [zrw_0] at h9
  exact j_re hJ h9 ⟨rfl, rfl, rfl, rfl, rfl, rfl, trivial⟩
set_option maxRecDepth 20000 in
theorem kX1_shift (r : Int) (b : Nat) (low n9 : Int) (h1 : 0 ≤ r ∧ r < 16) (hb : b = 1 ∨ b = 2) (hlow : 0 ≤ low ∧ low < ((2 ^ b : Nat) : Int)) (hn9 : 0 ≤ n9 ∧ n9 ≤ 2100) (d1 : dgs 65536 2100 (Z (r.toNat + 2))) (hfit : vs 65536 (Z (r.toNat + 2)) n9.toNat * ((2 ^ b : Nat) : Int) + low < 65536 ^ n9.toNat) :
    Ct l D (tM cI) (wM cI a) yX1_shift wsX1_shift 1 0 23 [.ref (a 0), .int (iZ r), .int (iZ (b : Int)), .int (iZ low), .int (iZ n9)] Z (fun v Z' => v = none ∧ ∃ f, Z' = zrw Z (r.toNat + 2) n9.toNat f ∧ dgs 65536 n9.toNat f ∧ vs 65536 f n9.toNat = vs 65536 (Z (r.toNat + 2)) n9.toNat * ((2 ^ b : Nat) : Int) + low) nX := by
  refine Ct.of (cc := cX1_shift) (maxL := 8) (ret := none) rfl (by decide) rfl (Nat.le_of_ble_eq_true rfl) (fun J hJ => ?_)
  have key : ∀ d c : Int, 0 ≤ d ∧ d < 65536 → 0 ≤ c ∧ c < ((2 ^ b : Nat) : Int) → 0 ≤ d * ((2 ^ b : Nat) : Int) + c ∧ d * ((2 ^ b : Nat) : Int) + c < 1000000 ∧ (d * ((2 ^ b : Nat) : Int) + c) / 65536 < ((2 ^ b : Nat) : Int) ∧ 0 ≤ (d * ((2 ^ b : Nat) : Int) + c) / 65536 := by
    rcases hb with rfl | rfl <;> (intro d c q1 q2; omega)
  have loop : ∀ (m n : Nat) (f : Nat → Int) (c : Int), n + m = n9.toNat → dgs 65536 n f → (0 ≤ c ∧ c < ((2 ^ b : Nat) : Int)) → vs 65536 f n + c * 65536 ^ n = vs 65536 (Z (r.toNat + 2)) n * ((2 ^ b : Nat) : Int) + low → J (zrw Z (r.toNat + 2) n f) 0 6 [(0, .ref (a 0)), (1, .int (iZ r)), (2, .int (iZ (b : Int))), (4, .int (iZ n9)), (5, .int (iZ c)), (6, .int (iZ n))] [] := by
    intro m
    induction m with
    | zero =>
      intro n f c hm hd hc hv
      have hn : n = n9.toNat := by omega
      rw [hn] at hd hv ⊢
      have hnn := vs_nonneg (B := 65536) (by decide) hd
      have hp := pw_pos (B := 65536) (by decide) n9.toNat
      have hc0 : c = 0 := by
        rcases Int.lt_or_le 0 c with q | q
        · have := Int.mul_le_mul_of_nonneg_right (show 1 ≤ c from q) (Int.le_of_lt hp)
          omega
        · omega
      rw [hc0] at hv
      refine j_iload hJ dX1_shift_6 rfl ?_
      refine j_iload hJ dX1_shift_8 rfl ?_
      refine j_icmp_ge (tgt := 52) hJ (by decide) ⟨by omega, by omega⟩ ⟨by omega, by omega⟩ dX1_shift_10 (fun h10 => ?_) (fun h10 => ?_)
      · exact j_vret hJ (Nat.le_of_ble_eq_true rfl) (⟨rfl, f, rfl, hd, by omega⟩) dX1_shift_52
      · omega
    | succ m ih =>
      intro n f c hm hd hc hv
      have q1 := d1 n (by omega)
      have e1 : zrw Z (r.toNat + 2) n f (r.toNat + 2) n = Z (r.toNat + 2) n := zrw_ge (Nat.le_refl n)
      have e3 : ((n : Nat) : Int).toNat = n := by omega
      obtain ⟨k1, k2, k3, k4⟩ := key _ _ q1 hc
      refine j_iload hJ dX1_shift_6 rfl ?_
      refine j_iload hJ dX1_shift_8 rfl ?_
      refine j_icmp_ge (tgt := 52) hJ (by decide) ⟨by omega, by omega⟩ ⟨by omega, by omega⟩ dX1_shift_10 (fun h10 => ?_) (fun h10 => ?_)
      · omega
      · refine j_aload_n hJ dX1_shift_13 rfl ?_
        refine j_iload_n hJ dX1_shift_14 rfl ?_
        refine j_iload hJ dX1_shift_15 rfl ?_
        refine j_callV hJ (kX1_get l D cI a _ _ _ ⟨by omega, by omega⟩ ⟨by omega, by omega⟩) rfl gX1_shift_X1_get rfl hdX1_get rfl ⟨Nat.le_of_ble_eq_true rfl, Nat.le_of_ble_eq_true rfl⟩ (Nat.le_of_ble_eq_true rfl) (Nat.le_of_ble_eq_true rfl) rfl rfl dX1_shift_17 (fun _ _ h => False.elim h) (fun r17 Z17 hp17 => ?_)
        obtain ⟨rfl, rfl⟩ := hp17
        rw [e3, e1]
        refine j_iload_n hJ dX1_shift_20 rfl ?_
        refine j_ishl (n := b) hJ (by omega) dX1_shift_21 ?_
        refine j_iload hJ dX1_shift_22 rfl ?_
        refine j_ior hJ (iZ_or (n := b) (by omega) hc) dX1_shift_24 ?_
        refine j_istore hJ (by decide) dX1_shift_25 ?_
        refine j_aload_n hJ dX1_shift_27 rfl ?_
        refine j_iload_n hJ dX1_shift_28 rfl ?_
        refine j_iload hJ dX1_shift_29 rfl ?_
        refine j_iload hJ dX1_shift_31 rfl ?_
        refine j_ldc (v := 65535) (z := 65535) hJ (by decide) (by decide +kernel) dX1_shift_33 ?_
        refine j_iand hJ (iZ_low16 _) dX1_shift_35 ?_
        refine j_callV hJ (kX1_put l D cI a _ _ _ _ ⟨by omega, by omega⟩ ⟨by omega, by omega⟩) rfl gX1_shift_X1_put rfl hdX1_put rfl ⟨Nat.le_of_ble_eq_true rfl, Nat.le_of_ble_eq_true rfl⟩ (Nat.le_of_ble_eq_true rfl) (Nat.le_of_ble_eq_true rfl) rfl rfl dX1_shift_36 (fun _ _ h => False.elim h) (fun r36 Z36 hp36 => ?_)
        obtain ⟨rfl, rfl⟩ := hp36
        rw [e3, zrw_push]
        refine j_iload hJ dX1_shift_39 rfl ?_
        refine j_bipush hJ (by decide) dX1_shift_41 ?_
        refine j_ishr (n := 16) hJ (by decide) ⟨by omega, by omega⟩ dX1_shift_43 ?_
        refine j_istore hJ (by decide) dX1_shift_44 ?_
        refine j_iinc hJ (by decide) dX1_shift_46 rfl ?_
        refine j_goto (tgt := 6) hJ (by decide) dX1_shift_49 ?_
        refine j_re hJ (ih (n + 1) _ ((Z (r.toNat + 2) n * ((2 ^ b : Nat) : Int) + c) / 65536) (by omega) (dgs_push hd ⟨by omega, by omega⟩) ⟨k4, k3⟩ ?_) ⟨rfl, rfl, rfl, rfl, rfl, rfl, trivial⟩
        rw [vs_push, vs_s, pw_s]
        have hw : (Z (r.toNat + 2) n * ((2 ^ b : Nat) : Int) + c) % 65536 = (Z (r.toNat + 2) n * ((2 ^ b : Nat) : Int) + c) - 65536 * ((Z (r.toNat + 2) n * ((2 ^ b : Nat) : Int) + c) / 65536) := by omega
        rw [hw]
        grind
  refine j_iload_n hJ dX1_shift_0 rfl ?_
  refine j_istore hJ (by decide) dX1_shift_1 ?_
  refine j_iconst hJ dX1_shift_3 ?_
  refine j_istore hJ (by decide) dX1_shift_4 ?_
  have h9 := loop n9.toNat 0 (fun _ => 0) low (by omega) (dgs_0 _ _) hlow (by show (0 : Int) + low * 65536 ^ 0 = 0 * _ + low; rw [Int.pow_zero]; omega)
  rw [zrw_0] at h9
  exact j_re hJ h9 ⟨rfl, rfl, rfl, rfl, rfl, rfl, trivial⟩
end M3
end
section
section M4
variable (l : Launch) (D : va_G) (cI : ClassId) (a : Nat → Nat) (Z : ZZ)
set_option maxRecDepth 20000 in
theorem kX1_bit (r : Int) (k : Nat) (h1 : 0 ≤ r ∧ r < 16) (hk : k < 33600) (d1 : dgs 65536 2100 (Z (r.toNat + 2))) : Ct l D (tM cI) (wM cI a) yX1_bit wsX1_bit 1 0 22 [.ref (a 0), .int (iZ r), .int (iZ (k : Int))] Z (fun v Z' => v = some (.int (iZ (vs 65536 (Z (r.toNat + 2)) 2100 / 2 ^ k % 2))) ∧ Z = Z') nX := by
  refine Ct.of (cc := cX1_bit) (maxL := 3) (ret := some .int) rfl (by decide) rfl (Nat.le_of_ble_eq_true rfl) (fun J hJ => ?_)
  have q1 := d1 (k / 16) (by omega)
  have e1 : ((k : Int) / 16).toNat = k / 16 := by omega
  have e2 : (k : Int) % 16 = ((k % 16 : Nat) : Int) := by omega
  have hb := bit_digit d1 (q := k / 16) (s := k % 16) (by omega) (by omega)
  rw [show 16 * (k / 16) + k % 16 = k by omega] at hb
  refine j_aload_n hJ dX1_bit_0 rfl ?_
  refine j_iload_n hJ dX1_bit_1 rfl ?_
  refine j_iload_n hJ dX1_bit_2 rfl ?_
  refine j_bipush hJ (by decide) dX1_bit_3 ?_
  refine j_idiv hJ (by omega) ⟨by omega, by omega⟩ ⟨by omega, by omega⟩ (by omega) dX1_bit_5 ?_
  refine j_callV hJ (kX1_get l D cI a _ _ _ ⟨by omega, by omega⟩ ⟨by omega, by omega⟩) rfl gX1_bit_X1_get rfl hdX1_get rfl ⟨Nat.le_of_ble_eq_true rfl, Nat.le_of_ble_eq_true rfl⟩ (Nat.le_of_ble_eq_true rfl) (Nat.le_of_ble_eq_true rfl) rfl rfl dX1_bit_6 (fun _ _ h => False.elim h) (fun r6 Z6 hp6 => ?_)
  obtain ⟨rfl, rfl⟩ := hp6
  rw [e1]
  refine j_iload_n hJ dX1_bit_9 rfl ?_
  refine j_bipush hJ (by decide) dX1_bit_10 ?_
  refine j_irem hJ (by omega) ⟨by omega, by omega⟩ ⟨by omega, by omega⟩ (by omega) dX1_bit_12 ?_
  rw [e2]
  refine j_ishr (n := k % 16) hJ (by omega) ⟨by omega, by omega⟩ dX1_bit_13 ?_
  refine j_iconst hJ dX1_bit_14 ?_
  refine j_iand hJ (iZ_low1 _) dX1_bit_15 ?_
  exact j_iret hJ (Nat.le_of_ble_eq_true rfl) (⟨by rw [pw2_cast, hb], rfl⟩) dX1_bit_16
set_option maxRecDepth 20000 in
theorem kX1_bitsOf (r : Int) (h1 : 0 ≤ r ∧ r < 16) (d1 : dgs 65536 2100 (Z (r.toNat + 2))) : Ct l D (tM cI) (wM cI a) yX1_bitsOf wsX1_bitsOf 2 0 44 [.ref (a 0), .int (iZ r)] Z (fun v Z' => (∃ z : Nat, v = some (.int (iZ (z : Int))) ∧ nb (vs 65536 (Z (r.toNat + 2)) 2100) z ∧ z ≤ 33600) ∧ Z = Z') nX := by
  refine Ct.of (cc := cX1_bitsOf) (maxL := 5) (ret := some .int) rfl (by decide) rfl (Nat.le_of_ble_eq_true rfl) (fun J hJ => ?_)
  have hl := lenr_le (Z (r.toNat + 2)) 2100
  have hlt := lenr_top (Z (r.toNat + 2)) 2100
  have hvl := vs_len 65536 (Z (r.toNat + 2)) 2100
  have loop : ∀ (t : Nat) (v : Int) (b : Nat), (0 ≤ v ∧ v < 2 ^ t) → t ≤ 16 → b + t ≤ 33600 → (∀ z : Nat, nb v z → z ≤ t → nb (vs 65536 (Z (r.toNat + 2)) 2100) (b + z)) → J Z 0 30 [(0, .ref (a 0)), (1, .int (iZ r)), (3, .int (iZ (b : Int))), (4, .int (iZ v))] [] := by
    intro t
    induction t with
    | zero =>
      intro v b hv ht hb hn
      rw [Int.pow_zero] at hv
      refine j_iload hJ dX1_bitsOf_30 rfl ?_
      refine j_if_le (tgt := 47) hJ (by decide) ⟨by omega, by omega⟩ dX1_bitsOf_32 (fun h32 => ?_) (fun h32 => ?_)
      · refine j_iload_n hJ dX1_bitsOf_47 rfl ?_
        exact j_iret hJ (Nat.le_of_ble_eq_true rfl) (⟨⟨b, rfl, (by have := hn 0 ⟨(by rw [show v = 0 by omega]; decide), Or.inl rfl⟩ (Nat.le_refl 0); exact this), by omega⟩, rfl⟩) dX1_bitsOf_48
      · omega
    | succ t ih =>
      intro v b hv ht hb hn
      have hv2 := hv.2
      have hpm := pw_mono (B := 2) (by decide) ht
      have h16 : (2 : Int) ^ 16 = 65536 := by decide
      rw [pw_s] at hv2
      refine j_iload hJ dX1_bitsOf_30 rfl ?_
      refine j_if_le (tgt := 47) hJ (by decide) ⟨by omega, by omega⟩ dX1_bitsOf_32 (fun h32 => ?_) (fun h32 => ?_)
      · refine j_iload_n hJ dX1_bitsOf_47 rfl ?_
        exact j_iret hJ (Nat.le_of_ble_eq_true rfl) (⟨⟨b, rfl, (by have := hn 0 ⟨(by rw [show v = 0 by omega]; decide), Or.inl rfl⟩ (Nat.zero_le _); exact this), by omega⟩, rfl⟩) dX1_bitsOf_48
      · refine j_iinc hJ (by decide) dX1_bitsOf_35 rfl ?_
        refine j_iload hJ dX1_bitsOf_38 rfl ?_
        refine j_iconst hJ dX1_bitsOf_40 ?_
        refine j_ishr (n := 1) hJ (by decide) ⟨by omega, by omega⟩ dX1_bitsOf_41 ?_
        refine j_istore hJ (by decide) dX1_bitsOf_42 ?_
        refine j_goto (tgt := 30) hJ (by decide) dX1_bitsOf_44 ?_
        refine j_re hJ (ih (v / 2) (b + 1) ⟨by omega, by omega⟩ (by omega) (by omega) (fun z hz hzt => ?_)) ⟨rfl, rfl, rfl, rfl, trivial⟩
        have h9 := hn (z + 1) (nb_half (by omega) hz) (by omega)
        rw [show b + 1 + z = b + (z + 1) by omega]
        exact h9
  refine j_aload_n hJ dX1_bitsOf_0 rfl ?_
  refine j_iload_n hJ dX1_bitsOf_1 rfl ?_
  refine j_callV hJ (kX1_length l D cI a _ _ ⟨by omega, by omega⟩ (by assumption)) rfl gX1_bitsOf_X1_length rfl hdX1_length rfl ⟨Nat.le_of_ble_eq_true rfl, Nat.le_of_ble_eq_true rfl⟩ (Nat.le_of_ble_eq_true rfl) (Nat.le_of_ble_eq_true rfl) rfl rfl dX1_bitsOf_2 (fun _ _ h => False.elim h) (fun r2 Z2 hp2 => ?_)
  obtain ⟨rfl, rfl⟩ := hp2
  refine j_istore_n hJ (by decide) dX1_bitsOf_5 ?_
  refine j_iload_n hJ dX1_bitsOf_6 rfl ?_
  refine j_if_ne (tgt := 12) hJ (by decide) ⟨by omega, by omega⟩ dX1_bitsOf_7 (fun h7 => ?_) (fun h7 => ?_)
  · refine j_bipush hJ (by decide) dX1_bitsOf_12 ?_
    refine j_iload_n hJ dX1_bitsOf_14 rfl ?_
    refine j_imul hJ dX1_bitsOf_15 ?_
    refine j_bipush hJ (by decide) dX1_bitsOf_16 ?_
    refine j_isub hJ dX1_bitsOf_18 ?_
    refine j_istore_n hJ (by decide) dX1_bitsOf_19 ?_
    obtain ⟨m, hm⟩ : ∃ m, lenr (Z (r.toNat + 2)) 2100 = m + 1 := ⟨lenr (Z (r.toNat + 2)) 2100 - 1, by omega⟩
    rw [hm] at hlt hvl hl ⊢
    have hdm := d1 m (by omega)
    have hne : Z (r.toNat + 2) m ≠ 0 := hlt.resolve_left (by omega)
    refine j_aload_n hJ dX1_bitsOf_20 rfl ?_
    refine j_iload_n hJ dX1_bitsOf_21 rfl ?_
    refine j_iload_n hJ dX1_bitsOf_22 rfl ?_
    refine j_iconst hJ dX1_bitsOf_23 ?_
    refine j_isub hJ dX1_bitsOf_24 ?_
    refine j_callV hJ (kX1_get l D cI a _ _ _ ⟨by omega, by omega⟩ ⟨by omega, by omega⟩) rfl gX1_bitsOf_X1_get rfl hdX1_get rfl ⟨Nat.le_of_ble_eq_true rfl, Nat.le_of_ble_eq_true rfl⟩ (Nat.le_of_ble_eq_true rfl) (Nat.le_of_ble_eq_true rfl) rfl rfl dX1_bitsOf_25 (fun _ _ h => False.elim h) (fun r25 Z25 hp25 => ?_)
    obtain ⟨rfl, rfl⟩ := hp25
    rw [show (((m + 1 : Nat) : Int) - 1).toNat = m by omega]
    refine j_istore hJ (by decide) dX1_bitsOf_28 ?_
    refine j_re hJ (loop 16 (Z (r.toNat + 2) m) (16 * m) ⟨by omega, by have : (2 : Int) ^ 16 = 65536 := (by decide); omega⟩ (by omega) (by omega) (fun z hz _ => ?_)) ⟨rfl, rfl, by show some (Value.int (iZ (16 * ((m + 1 : Nat) : Int) - 16))) = _; rw [show 16 * ((m + 1 : Nat) : Int) - 16 = ((16 * m : Nat) : Int) by omega], rfl, trivial⟩
    rw [hvl]
    refine nb_top (b := 16) (dgs_mono (n := 2100) (fun i hi => d1 i hi) (by omega)) hz ?_
    rcases Nat.eq_zero_or_pos z with q | q
    · subst q; have := hz.1; rw [Int.pow_zero] at this; omega
    · exact q
  · refine j_iconst hJ dX1_bitsOf_10 ?_
    exact j_iret hJ (Nat.le_of_ble_eq_true rfl) (⟨⟨0, rfl, (by rw [hvl, show lenr (Z (r.toNat + 2)) 2100 = 0 by omega]; exact nb_0), by omega⟩, rfl⟩) dX1_bitsOf_11
set_option maxRecDepth 20000 in
theorem kX1_give (r : Int) (h1 : 0 ≤ r ∧ r < 16) (d1 : dgs 65536 2100 (Z 14)) : Ct l D (tM cI) (wM cI a) yX1_give wsX1_give 2 0 46 [.ref (a 0), .int (iZ r)] Z (fun v Z' => v = none ∧ ((65536 ^ 1024 ≤ vs 65536 (Z 14) 2100 ∧ Z' = zup Z 0 0 2) ∨ (vs 65536 (Z 14) 2100 < 65536 ^ 1024 ∧ vs 65536 (Z 14) 2100 = 0 ∧ Z' = mmov (zup Z 1 12 0) r.toNat 12) ∨ (vs 65536 (Z 14) 2100 < 65536 ^ 1024 ∧ vs 65536 (Z 14) 2100 ≠ 0 ∧ Z' = mmov Z r.toNat 12))) nX := by
  refine Ct.of (cc := cX1_give) (maxL := 2) (ret := none) rfl (by decide) rfl (Nat.le_of_ble_eq_true rfl) (fun J hJ => ?_)
  have hin : ∀ w ∈ u_ws RX1 TX1 3, w ∈ wsX1_give := by decide +kernel
  have hl := lenr_le (Z 14) 2100
  have hiff := lenr_iff (B := 65536) (by decide) d1 (m := 1024)
  have h0iff := lenr_0iff (B := 65536) (by decide) d1
  have d2 : dgs 65536 2100 (Z ((12 : Int).toNat + 2)) := d1
  refine j_aload_n hJ dX1_give_0 rfl ?_
  refine j_bipush hJ (by decide) dX1_give_1 ?_
  refine j_callV hJ (kX1_length l D cI a _ _ ⟨by omega, by omega⟩ (by assumption)) rfl gX1_give_X1_length rfl hdX1_length rfl ⟨Nat.le_of_ble_eq_true rfl, Nat.le_of_ble_eq_true rfl⟩ (Nat.le_of_ble_eq_true rfl) (Nat.le_of_ble_eq_true rfl) rfl rfl dX1_give_3 (fun _ _ h => False.elim h) (fun r3 Z3 hp3 => ?_)
  obtain ⟨rfl, rfl⟩ := hp3
  rw [show (12 : Int).toNat + 2 = 14 from rfl]
  refine j_sipush hJ (by decide) dX1_give_6 ?_
  refine j_icmp_le (tgt := 18) hJ (by decide) ⟨by omega, by omega⟩ ⟨by omega, by omega⟩ dX1_give_9 (fun h9 => ?_) (fun h9 => ?_)
  · refine j_aload_n hJ dX1_give_18 rfl ?_
    refine j_bipush hJ (by decide) dX1_give_19 ?_
    refine j_callV hJ (kX1_length l D cI a _ _ ⟨by omega, by omega⟩ (by assumption)) rfl gX1_give_X1_length rfl hdX1_length rfl ⟨Nat.le_of_ble_eq_true rfl, Nat.le_of_ble_eq_true rfl⟩ (Nat.le_of_ble_eq_true rfl) (Nat.le_of_ble_eq_true rfl) rfl rfl dX1_give_21 (fun _ _ h => False.elim h) (fun r21 Z21 hp21 => ?_)
    obtain ⟨rfl, rfl⟩ := hp21
    rw [show (12 : Int).toNat + 2 = 14 from rfl]
    refine j_if_ne (tgt := 35) hJ (by decide) ⟨by omega, by omega⟩ dX1_give_24 (fun h24 => ?_) (fun h24 => ?_)
    · refine j_aload_n hJ dX1_give_35 rfl ?_
      refine j_iload_n hJ dX1_give_36 rfl ?_
      refine j_bipush hJ (by decide) dX1_give_37 ?_
      refine j_callV hJ (kX1_move l D cI a _ _ _ ⟨by omega, by omega⟩ ⟨by omega, by omega⟩) rfl gX1_give_X1_move rfl hdX1_move rfl ⟨Nat.le_of_ble_eq_true rfl, Nat.le_of_ble_eq_true rfl⟩ (Nat.le_of_ble_eq_true rfl) (Nat.le_of_ble_eq_true rfl) rfl rfl dX1_give_39 (fun _ _ h => False.elim h) (fun r39 Z39 hp39 => ?_)
      obtain ⟨rfl, rfl⟩ := hp39
      exact j_vret hJ (Nat.le_of_ble_eq_true rfl) (⟨rfl, by first | exact Or.inr (Or.inl ⟨by omega, by omega, rfl⟩) | exact Or.inr (Or.inr ⟨by omega, by omega, rfl⟩)⟩) dX1_give_42
    · refine j_aload_n hJ dX1_give_27 rfl ?_
      refine m_sign hJ hin (by decide +kernel) dX1_give_28 ?_
      refine j_bipush hJ (by decide) dX1_give_31 ?_
      refine j_iconst hJ dX1_give_33 ?_
      refine m_ast_sg hJ ⟨by omega, by omega⟩ dX1_give_34 ?_
      refine j_aload_n hJ dX1_give_35 rfl ?_
      refine j_iload_n hJ dX1_give_36 rfl ?_
      refine j_bipush hJ (by decide) dX1_give_37 ?_
      refine j_callV hJ (kX1_move l D cI a _ _ _ ⟨by omega, by omega⟩ ⟨by omega, by omega⟩) rfl gX1_give_X1_move rfl hdX1_move rfl ⟨Nat.le_of_ble_eq_true rfl, Nat.le_of_ble_eq_true rfl⟩ (Nat.le_of_ble_eq_true rfl) (Nat.le_of_ble_eq_true rfl) rfl rfl dX1_give_39 (fun _ _ h => False.elim h) (fun r39 Z39 hp39 => ?_)
      obtain ⟨rfl, rfl⟩ := hp39
      exact j_vret hJ (Nat.le_of_ble_eq_true rfl) (⟨rfl, by first | exact Or.inr (Or.inl ⟨by omega, by omega, rfl⟩) | exact Or.inr (Or.inr ⟨by omega, by omega, rfl⟩)⟩) dX1_give_42
  · refine j_aload_n hJ dX1_give_12 rfl ?_
    refine j_iconst hJ dX1_give_13 ?_
    refine m_putcode hJ hin (by decide +kernel) dX1_give_14 ?_
    exact j_vret hJ (Nat.le_of_ble_eq_true rfl) (⟨rfl, Or.inl ⟨by omega, rfl⟩⟩) dX1_give_17
end M4
end
section
section M5
variable (l : Launch) (D : va_G) (cI : ClassId) (a : Nat → Nat) (Z : ZZ)
theorem sum_sg {s1 s2 v1 v2 s : Int} (h1 : sgOK s1 v1) (h2 : sgOK s2 v2) (hs : s1 = s2 ∨ s1 = 0 ∨ s2 = 0) (e : (s1 = 0 ∧ s = s2) ∨ (¬ s1 = 0 ∧ s = s1)) : (s = 0 ∨ s = 1 ∨ s = -1) ∧ s * (v1 + v2) = s1 * v1 + s2 * v2 ∧ (s = 0 → v1 + v2 = 0) := by
  rcases h1 with ⟨rfl, p2⟩ | ⟨rfl, p2⟩ | ⟨rfl, p2⟩ <;> rcases h2 with ⟨rfl, q2⟩ | ⟨rfl, q2⟩ | ⟨rfl, q2⟩ <;> rcases e with ⟨e1, rfl⟩ | ⟨e1, rfl⟩ <;> omega
theorem sub_sg {s1 s2 v1 v2 : Int} (h1 : sgOK s1 v1) (h2 : sgOK s2 v2) (n1 : ¬ s1 = s2) (n2 : ¬ s1 = 0) (n3 : ¬ s2 = 0) : s1 * (v1 - v2) = s1 * v1 + s2 * v2 ∧ s2 * (v2 - v1) = s1 * v1 + s2 * v2 := by
  rcases h1 with ⟨rfl, p2⟩ | ⟨rfl, p2⟩ | ⟨rfl, p2⟩ <;> rcases h2 with ⟨rfl, q2⟩ | ⟨rfl, q2⟩ | ⟨rfl, q2⟩ <;> omega
set_option maxRecDepth 20000 in
theorem kX1_sum (d1 : dgs 65536 2100 (Z 16)) (d2 : dgs 65536 2100 (Z 17)) (s1 : sgOK (Z 1 14) (vs 65536 (Z 16) 2100)) (s2 : sgOK (Z 1 15) (vs 65536 (Z 17) 2100)) (l1 : vs 65536 (Z 16) 2100 < LIM) (l2 : vs 65536 (Z 17) 2100 < LIM) :
    Ct l D (tM cI) (wM cI a) yX1_sum wsX1_sum 2 0 49 [.ref (a 0)] Z (fun v Z' => v = none ∧ ∃ f s, Z' = zup (zrw Z 14 2100 f) 1 12 s ∧ dgs 65536 2100 f ∧ (s = 0 ∨ s = 1 ∨ s = -1) ∧ s * vs 65536 f 2100 = Z 1 14 * vs 65536 (Z 16) 2100 + Z 1 15 * vs 65536 (Z 17) 2100 ∧ (s = 0 → vs 65536 f 2100 = 0)) nX := by
  refine Ct.of (cc := cX1_sum) (maxL := 4) (ret := none) rfl (by decide) rfl (Nat.le_of_ble_eq_true rfl) (fun J hJ => ?_)
  have hin : ∀ w ∈ u_ws RX1 TX1 3, w ∈ wsX1_sum := by decide +kernel
  have e14 : (14 : Int).toNat = 14 := rfl
  have e15 : (15 : Int).toNat = 15 := rfl
  have t1 := s1
  have t2 := s2
  unfold sgOK at t1 t2
  have n1 := vs_nonneg (B := 65536) (by decide) d1
  have n2 := vs_nonneg (B := 65536) (by decide) d2
  have loop : (Z 1 14 = Z 1 15 ∨ Z 1 14 = 0 ∨ Z 1 15 = 0) → ∀ (m n : Nat) (f : Nat → Int) (c : Int), n + m = 2100 → dgs 65536 n f → (c = 0 ∨ c = 1) → vs 65536 f n + c * 65536 ^ n = vs 65536 (Z 16) n + vs 65536 (Z 17) n → J (zrw Z 14 n f) 0 41 [(0, .ref (a 0)), (1, .int (iZ c)), (2, .int (iZ n))] [] := by
    intro hs m
    induction m with
    | zero =>
      intro n f c hm hd hc hv
      have hn : n = 2100 := by omega
      subst hn
      have hlt := LIM_sum l1 l2
      have hnn := vs_nonneg (B := 65536) (by decide) hd
      have hc0 : c = 0 := by
        rcases hc with q | q
        · exact q
        · rw [q] at hv; omega
      rw [hc0] at hv
      have hv2 : vs 65536 f 2100 = vs 65536 (Z 16) 2100 + vs 65536 (Z 17) 2100 := by omega
      have ez : zrw Z 14 2100 f 1 = Z 1 := zrw_off (by decide)
      refine j_iload_n hJ dX1_sum_41 rfl ?_
      refine j_sipush hJ (by decide) dX1_sum_42 ?_
      refine j_icmp_ge (tgt := 88) hJ (by decide) ⟨by omega, by omega⟩ ⟨by omega, by omega⟩ dX1_sum_45 (fun h45 => ?_) (fun h45 => ?_)
      · refine j_aload_n hJ dX1_sum_88 rfl ?_
        refine m_sign hJ hin (by decide +kernel) dX1_sum_89 ?_
        refine j_bipush hJ (by decide) dX1_sum_92 ?_
        refine j_aload_n hJ dX1_sum_94 rfl ?_
        refine m_sign hJ hin (by decide +kernel) dX1_sum_95 ?_
        refine j_bipush hJ (by decide) dX1_sum_98 ?_
        refine m_ald_sg hJ ⟨by omega, by omega⟩ dX1_sum_100 ?_
        rw [ez, e14]
        refine j_if_ne (tgt := 114) hJ (by decide) ⟨by omega, by omega⟩ dX1_sum_101 (fun h101 => ?_) (fun h101 => ?_)
        · refine j_aload_n hJ dX1_sum_114 rfl ?_
          refine m_sign hJ hin (by decide +kernel) dX1_sum_115 ?_
          refine j_bipush hJ (by decide) dX1_sum_118 ?_
          refine m_ald_sg hJ ⟨by omega, by omega⟩ dX1_sum_120 ?_
          try rw [ez, e14]
          refine m_ast_sg hJ ⟨by omega, by omega⟩ dX1_sum_121 ?_
          exact j_vret hJ (Nat.le_of_ble_eq_true rfl) (⟨rfl, f, _, rfl, hd, by rw [hv2]; exact sum_sg s1 s2 hs (by omega)⟩) dX1_sum_122
        · refine j_aload_n hJ dX1_sum_104 rfl ?_
          refine m_sign hJ hin (by decide +kernel) dX1_sum_105 ?_
          refine j_bipush hJ (by decide) dX1_sum_108 ?_
          refine m_ald_sg hJ ⟨by omega, by omega⟩ dX1_sum_110 ?_
          rw [ez, e15]
          refine j_goto (tgt := 121) hJ (by decide) dX1_sum_111 ?_
          try rw [ez, e14]
          refine m_ast_sg hJ ⟨by omega, by omega⟩ dX1_sum_121 ?_
          exact j_vret hJ (Nat.le_of_ble_eq_true rfl) (⟨rfl, f, _, rfl, hd, by rw [hv2]; exact sum_sg s1 s2 hs (by omega)⟩) dX1_sum_122
      · omega
    | succ m ih =>
      intro n f c hm hd hc hv
      have q1 := d1 n (by omega)
      have q2 := d2 n (by omega)
      have e1 : zrw Z 14 n f 16 = Z 16 := zrw_off (by decide)
      have e2 : zrw Z 14 n f 17 = Z 17 := zrw_off (by decide)
      have e3 : ((n : Nat) : Int).toNat = n := by omega
      refine j_iload_n hJ dX1_sum_41 rfl ?_
      refine j_sipush hJ (by decide) dX1_sum_42 ?_
      refine j_icmp_ge (tgt := 88) hJ (by decide) ⟨by omega, by omega⟩ ⟨by omega, by omega⟩ dX1_sum_45 (fun h45 => ?_) (fun h45 => ?_)
      · omega
      · refine j_iload_n hJ dX1_sum_48 rfl ?_
        refine j_aload_n hJ dX1_sum_49 rfl ?_
        refine j_bipush hJ (by decide) dX1_sum_50 ?_
        refine j_iload_n hJ dX1_sum_52 rfl ?_
        refine j_callV hJ (kX1_get l D cI a _ _ _ ⟨by omega, by omega⟩ ⟨by omega, by omega⟩) rfl gX1_sum_X1_get rfl hdX1_get rfl ⟨Nat.le_of_ble_eq_true rfl, Nat.le_of_ble_eq_true rfl⟩ (Nat.le_of_ble_eq_true rfl) (Nat.le_of_ble_eq_true rfl) rfl rfl dX1_sum_53 (fun _ _ h => False.elim h) (fun r53 Z53 hp53 => ?_)
        obtain ⟨rfl, rfl⟩ := hp53
        rw [show (14 : Int).toNat + 2 = 16 from rfl, e1, e3]
        refine j_aload_n hJ dX1_sum_56 rfl ?_
        refine j_bipush hJ (by decide) dX1_sum_57 ?_
        refine j_iload_n hJ dX1_sum_59 rfl ?_
        refine j_callV hJ (kX1_get l D cI a _ _ _ ⟨by omega, by omega⟩ ⟨by omega, by omega⟩) rfl gX1_sum_X1_get rfl hdX1_get rfl ⟨Nat.le_of_ble_eq_true rfl, Nat.le_of_ble_eq_true rfl⟩ (Nat.le_of_ble_eq_true rfl) (Nat.le_of_ble_eq_true rfl) rfl rfl dX1_sum_60 (fun _ _ h => False.elim h) (fun r60 Z60 hp60 => ?_)
        obtain ⟨rfl, rfl⟩ := hp60
        rw [show (15 : Int).toNat + 2 = 17 from rfl, e2, e3]
        refine j_iadd hJ dX1_sum_63 ?_
        refine j_iadd hJ dX1_sum_64 ?_
        refine j_istore_n hJ (by decide) dX1_sum_65 ?_
        refine j_aload_n hJ dX1_sum_66 rfl ?_
        refine j_bipush hJ (by decide) dX1_sum_67 ?_
        refine j_iload_n hJ dX1_sum_69 rfl ?_
        refine j_iload_n hJ dX1_sum_70 rfl ?_
        refine j_ldc (v := 65535) (z := 65535) hJ (by decide) (by decide +kernel) dX1_sum_71 ?_
        refine j_iand hJ (iZ_low16 _) dX1_sum_73 ?_
        refine j_callV hJ (kX1_put l D cI a _ _ _ _ ⟨by omega, by omega⟩ ⟨by omega, by omega⟩) rfl gX1_sum_X1_put rfl hdX1_put rfl ⟨Nat.le_of_ble_eq_true rfl, Nat.le_of_ble_eq_true rfl⟩ (Nat.le_of_ble_eq_true rfl) (Nat.le_of_ble_eq_true rfl) rfl rfl dX1_sum_74 (fun _ _ h => False.elim h) (fun r74 Z74 hp74 => ?_)
        obtain ⟨rfl, rfl⟩ := hp74
        rw [show (12 : Int).toNat + 2 = 14 from rfl, e3, zrw_push]
        refine j_iload_n hJ dX1_sum_77 rfl ?_
        refine j_bipush hJ (by decide) dX1_sum_78 ?_
        refine j_ishr (n := 16) hJ (by decide) ⟨by omega, by omega⟩ dX1_sum_80 ?_
        refine j_istore_n hJ (by decide) dX1_sum_81 ?_
        refine j_iinc hJ (by decide) dX1_sum_82 rfl ?_
        refine j_goto (tgt := 41) hJ (by decide) dX1_sum_85 ?_
        refine j_re hJ (ih (n + 1) _ ((c + (Z 16 n + Z 17 n)) / 65536) (by omega) (dgs_push hd ⟨by omega, by omega⟩) (by omega) ?_) ⟨rfl, rfl, rfl, trivial⟩
        rw [vs_push, vs_s, vs_s, pw_s]
        have hw : (c + (Z 16 n + Z 17 n)) % 65536 = c + (Z 16 n + Z 17 n) - 65536 * ((c + (Z 16 n + Z 17 n)) / 65536) := by omega
        rw [hw]
        grind
  have d1' : dgs 65536 2100 (Z ((14 : Int).toNat + 2)) := d1
  have d2' : dgs 65536 2100 (Z ((15 : Int).toNat + 2)) := d2
  have hcz := cz_spec (vs 65536 (Z 16) 2100) (vs 65536 (Z 17) 2100)
  refine j_aload_n hJ dX1_sum_0 rfl ?_
  refine m_sign hJ hin (by decide +kernel) dX1_sum_1 ?_
  refine j_bipush hJ (by decide) dX1_sum_4 ?_
  refine m_ald_sg hJ ⟨by omega, by omega⟩ dX1_sum_6 ?_
  refine j_aload_n hJ dX1_sum_7 rfl ?_
  refine m_sign hJ hin (by decide +kernel) dX1_sum_8 ?_
  refine j_bipush hJ (by decide) dX1_sum_11 ?_
  refine m_ald_sg hJ ⟨by omega, by omega⟩ dX1_sum_13 ?_
  rw [e14, e15]
  refine j_icmp_eq (tgt := 37) hJ (by decide) ⟨by omega, by omega⟩ ⟨by omega, by omega⟩ dX1_sum_14 (fun h14 => ?_) (fun h14 => ?_)
  · refine j_iconst hJ dX1_sum_37 ?_
    refine j_istore_n hJ (by decide) dX1_sum_38 ?_
    refine j_iconst hJ dX1_sum_39 ?_
    refine j_istore_n hJ (by decide) dX1_sum_40 ?_
    have h9 := loop (by omega) 2100 0 (fun _ => 0) 0 (by omega) (dgs_0 _ _) (Or.inl rfl) (by show (0 : Int) + 0 * 65536 ^ 0 = 0 + 0; decide)
    rw [zrw_0] at h9
    exact j_re hJ h9 ⟨rfl, rfl, rfl, trivial⟩
  · refine j_aload_n hJ dX1_sum_17 rfl ?_
    refine m_sign hJ hin (by decide +kernel) dX1_sum_18 ?_
    refine j_bipush hJ (by decide) dX1_sum_21 ?_
    refine m_ald_sg hJ ⟨by omega, by omega⟩ dX1_sum_23 ?_
    rw [e14]
    refine j_if_eq (tgt := 37) hJ (by decide) ⟨by omega, by omega⟩ dX1_sum_24 (fun h24 => ?_) (fun h24 => ?_)
    · refine j_iconst hJ dX1_sum_37 ?_
      refine j_istore_n hJ (by decide) dX1_sum_38 ?_
      refine j_iconst hJ dX1_sum_39 ?_
      refine j_istore_n hJ (by decide) dX1_sum_40 ?_
      have h9 := loop (by omega) 2100 0 (fun _ => 0) 0 (by omega) (dgs_0 _ _) (Or.inl rfl) (by show (0 : Int) + 0 * 65536 ^ 0 = 0 + 0; decide)
      rw [zrw_0] at h9
      exact j_re hJ h9 ⟨rfl, rfl, rfl, trivial⟩
    · refine j_aload_n hJ dX1_sum_27 rfl ?_
      refine m_sign hJ hin (by decide +kernel) dX1_sum_28 ?_
      refine j_bipush hJ (by decide) dX1_sum_31 ?_
      refine m_ald_sg hJ ⟨by omega, by omega⟩ dX1_sum_33 ?_
      rw [e15]
      refine j_if_ne (tgt := 123) hJ (by decide) ⟨by omega, by omega⟩ dX1_sum_34 (fun h34 => ?_) (fun h34 => ?_)
      · refine j_aload_n hJ dX1_sum_123 rfl ?_
        refine j_bipush hJ (by decide) dX1_sum_124 ?_
        refine j_bipush hJ (by decide) dX1_sum_126 ?_
        refine j_callV hJ (kX1_order l D cI a _ _ _ ⟨by omega, by omega⟩ ⟨by omega, by omega⟩ d1' d2') rfl gX1_sum_X1_order rfl hdX1_order rfl ⟨Nat.le_of_ble_eq_true rfl, Nat.le_of_ble_eq_true rfl⟩ (Nat.le_of_ble_eq_true rfl) (Nat.le_of_ble_eq_true rfl) rfl rfl dX1_sum_128 (fun _ _ h => False.elim h) (fun r128 Z128 hp128 => ?_)
        obtain ⟨rfl, rfl⟩ := hp128
        rw [show (14 : Int).toNat + 2 = 16 from rfl, show (15 : Int).toNat + 2 = 17 from rfl]
        generalize cz (vs 65536 (Z 16) 2100) (vs 65536 (Z 17) 2100) = z at hcz ⊢
        refine j_if_ge (tgt := 138) hJ (by decide) ⟨by omega, by omega⟩ dX1_sum_131 (fun h131 => ?_) (fun h131 => ?_)
        · refine j_iconst hJ dX1_sum_138 ?_
          refine j_istore_n hJ (by decide) dX1_sum_139 ?_
          refine j_iload_n hJ dX1_sum_140 rfl ?_
          refine j_if_eq (tgt := 149) hJ (by decide) ⟨by omega, by omega⟩ dX1_sum_141 (fun h141 => ?_) (fun h141 => absurd h141 (by decide))
          refine j_bipush hJ (by decide) dX1_sum_149 ?_
          refine j_istore_n hJ (by decide) dX1_sum_151 ?_
          refine j_iload_n hJ dX1_sum_152 rfl ?_
          refine j_if_eq (tgt := 161) hJ (by decide) ⟨by omega, by omega⟩ dX1_sum_153 (fun h153 => ?_) (fun h153 => absurd h153 (by decide))
          refine j_bipush hJ (by decide) dX1_sum_161 ?_
          refine j_istore_n hJ (by decide) dX1_sum_163 ?_
          refine j_aload_n hJ dX1_sum_164 rfl ?_
          refine j_bipush hJ (by decide) dX1_sum_165 ?_
          refine j_iload_n hJ dX1_sum_167 rfl ?_
          refine j_iload_n hJ dX1_sum_168 rfl ?_
          refine j_callV hJ (by first | exact kX1_less l D cI a Z 12 14 15 ⟨by omega, by omega⟩ ⟨by omega, by omega⟩ ⟨by omega, by omega⟩ (by omega) (by omega) d1 d2 (by show vs 65536 (Z 17) 2100 ≤ vs 65536 (Z 16) 2100; omega) | exact kX1_less l D cI a Z 12 15 14 ⟨by omega, by omega⟩ ⟨by omega, by omega⟩ ⟨by omega, by omega⟩ (by omega) (by omega) d2 d1 (by show vs 65536 (Z 16) 2100 ≤ vs 65536 (Z 17) 2100; omega)) rfl gX1_sum_X1_less rfl hdX1_less rfl ⟨Nat.le_of_ble_eq_true rfl, Nat.le_of_ble_eq_true rfl⟩ (Nat.le_of_ble_eq_true rfl) (Nat.le_of_ble_eq_true rfl) rfl rfl dX1_sum_169 (fun _ _ h => False.elim h) (fun r169 Z169 hp169 => ?_)
          obtain ⟨rfl, f, rfl, hd, hv⟩ := hp169
          rw [show (12 : Int).toNat + 2 = 14 from rfl]
          refine j_aload_n hJ dX1_sum_172 rfl ?_
          refine m_sign hJ hin (by decide +kernel) dX1_sum_173 ?_
          refine j_bipush hJ (by decide) dX1_sum_176 ?_
          refine j_aload_n hJ dX1_sum_178 rfl ?_
          refine m_sign hJ hin (by decide +kernel) dX1_sum_179 ?_
          refine j_iload_n hJ dX1_sum_182 rfl ?_
          refine m_ald_sg hJ ⟨by omega, by omega⟩ dX1_sum_183 ?_
          rw [zrw_off (j' := 1) (by decide)]
          refine m_ast_sg hJ ⟨by omega, by omega⟩ dX1_sum_184 ?_
          exact j_vret hJ (Nat.le_of_ble_eq_true rfl) (⟨rfl, f, _, rfl, hd, by first | (show Z 1 14 = 0 ∨ Z 1 14 = 1 ∨ Z 1 14 = -1; omega) | (show Z 1 15 = 0 ∨ Z 1 15 = 1 ∨ Z 1 15 = -1; omega), by rw [hv]; first | exact (sub_sg s1 s2 (by omega) (by omega) (by omega)).1 | exact (sub_sg s1 s2 (by omega) (by omega) (by omega)).2, by first | (intro (q : Z 1 14 = 0); omega) | (intro (q : Z 1 15 = 0); omega)⟩) dX1_sum_185
        · refine j_iconst hJ dX1_sum_134 ?_
          refine j_goto (tgt := 139) hJ (by decide) dX1_sum_135 ?_
          refine j_istore_n hJ (by decide) dX1_sum_139 ?_
          refine j_iload_n hJ dX1_sum_140 rfl ?_
          refine j_if_eq (tgt := 149) hJ (by decide) ⟨by omega, by omega⟩ dX1_sum_141 (fun h141 => absurd h141 (by decide)) (fun h141 => ?_)
          refine j_bipush hJ (by decide) dX1_sum_144 ?_
          refine j_goto (tgt := 151) hJ (by decide) dX1_sum_146 ?_
          refine j_istore_n hJ (by decide) dX1_sum_151 ?_
          refine j_iload_n hJ dX1_sum_152 rfl ?_
          refine j_if_eq (tgt := 161) hJ (by decide) ⟨by omega, by omega⟩ dX1_sum_153 (fun h153 => absurd h153 (by decide)) (fun h153 => ?_)
          refine j_bipush hJ (by decide) dX1_sum_156 ?_
          refine j_goto (tgt := 163) hJ (by decide) dX1_sum_158 ?_
          refine j_istore_n hJ (by decide) dX1_sum_163 ?_
          refine j_aload_n hJ dX1_sum_164 rfl ?_
          refine j_bipush hJ (by decide) dX1_sum_165 ?_
          refine j_iload_n hJ dX1_sum_167 rfl ?_
          refine j_iload_n hJ dX1_sum_168 rfl ?_
          refine j_callV hJ (by first | exact kX1_less l D cI a Z 12 14 15 ⟨by omega, by omega⟩ ⟨by omega, by omega⟩ ⟨by omega, by omega⟩ (by omega) (by omega) d1 d2 (by show vs 65536 (Z 17) 2100 ≤ vs 65536 (Z 16) 2100; omega) | exact kX1_less l D cI a Z 12 15 14 ⟨by omega, by omega⟩ ⟨by omega, by omega⟩ ⟨by omega, by omega⟩ (by omega) (by omega) d2 d1 (by show vs 65536 (Z 16) 2100 ≤ vs 65536 (Z 17) 2100; omega)) rfl gX1_sum_X1_less rfl hdX1_less rfl ⟨Nat.le_of_ble_eq_true rfl, Nat.le_of_ble_eq_true rfl⟩ (Nat.le_of_ble_eq_true rfl) (Nat.le_of_ble_eq_true rfl) rfl rfl dX1_sum_169 (fun _ _ h => False.elim h) (fun r169 Z169 hp169 => ?_)
          obtain ⟨rfl, f, rfl, hd, hv⟩ := hp169
          rw [show (12 : Int).toNat + 2 = 14 from rfl]
          refine j_aload_n hJ dX1_sum_172 rfl ?_
          refine m_sign hJ hin (by decide +kernel) dX1_sum_173 ?_
          refine j_bipush hJ (by decide) dX1_sum_176 ?_
          refine j_aload_n hJ dX1_sum_178 rfl ?_
          refine m_sign hJ hin (by decide +kernel) dX1_sum_179 ?_
          refine j_iload_n hJ dX1_sum_182 rfl ?_
          refine m_ald_sg hJ ⟨by omega, by omega⟩ dX1_sum_183 ?_
          rw [zrw_off (j' := 1) (by decide)]
          refine m_ast_sg hJ ⟨by omega, by omega⟩ dX1_sum_184 ?_
          exact j_vret hJ (Nat.le_of_ble_eq_true rfl) (⟨rfl, f, _, rfl, hd, by first | (show Z 1 14 = 0 ∨ Z 1 14 = 1 ∨ Z 1 14 = -1; omega) | (show Z 1 15 = 0 ∨ Z 1 15 = 1 ∨ Z 1 15 = -1; omega), by rw [hv]; first | exact (sub_sg s1 s2 (by omega) (by omega) (by omega)).1 | exact (sub_sg s1 s2 (by omega) (by omega) (by omega)).2, by first | (intro (q : Z 1 14 = 0); omega) | (intro (q : Z 1 15 = 0); omega)⟩) dX1_sum_185
      · refine j_iconst hJ dX1_sum_37 ?_
        refine j_istore_n hJ (by decide) dX1_sum_38 ?_
        refine j_iconst hJ dX1_sum_39 ?_
        refine j_istore_n hJ (by decide) dX1_sum_40 ?_
        have h9 := loop (by omega) 2100 0 (fun _ => 0) 0 (by omega) (dgs_0 _ _) (Or.inl rfl) (by show (0 : Int) + 0 * 65536 ^ 0 = 0 + 0; decide)
        rw [zrw_0] at h9
        exact j_re hJ h9 ⟨rfl, rfl, rfl, trivial⟩
end M5
end
section
theorem isR_spec (r : Int) : (0 ≤ r ∧ r < 12 ∧ isR r = 1) ∨ ((r < 0 ∨ 12 ≤ r) ∧ isR r = 0) := by
  unfold isR
  by_cases h : 0 ≤ r ∧ r < 12
  · exact Or.inl ⟨h.1, h.2, if_pos h⟩
  · exact Or.inr ⟨by omega, if_neg h⟩
theorem give_MI {Z Z' : ZZ} {g : Nat → Int} {r : Int} (h : MI Z g) (hr : isRg r) {z : Int} (hz : vs 65536 (Z 14) 2100 = (z.natAbs : Int)) (hs : z ≠ 0 → Z 1 12 = z.sign) (hc : Z 0 0 = 0)
    (hp : (65536 ^ 1024 ≤ vs 65536 (Z 14) 2100 ∧ Z' = zup Z 0 0 2) ∨ (vs 65536 (Z 14) 2100 < 65536 ^ 1024 ∧ vs 65536 (Z 14) 2100 = 0 ∧ Z' = mmov (zup Z 1 12 0) r.toNat 12) ∨ (vs 65536 (Z 14) 2100 < 65536 ^ 1024 ∧ vs 65536 (Z 14) 2100 ≠ 0 ∧ Z' = mmov Z r.toNat 12)) :
    Z' 0 0 = (lim g r z).1 ∧ MI Z' (lim g r z).2 := by
  have hl : (65536 : Int) ^ 1024 = LIM := rfl
  rw [hl, hz] at hp
  have hrr : r.toNat < 12 := by have := hr.2; omega
  unfold lim
  rcases hp with ⟨h1, rfl⟩ | ⟨h1, h2, rfl⟩ | ⟨h1, h2, rfl⟩
  · rw [if_neg (by omega)]
    exact ⟨zup_eq _ _ _ _, h.code 2⟩
  · rw [if_pos h1]
    have hz0 : z = 0 := by omega
    refine ⟨?_, ?_⟩
    · show zup _ 1 _ _ 0 0 = 0
      rw [zup_ne (by omega), zrw_off (by omega), zup_ne (by omega)]; exact hc
    · refine MI.reg (h.sgn (j := 12) (by omega) 0) hrr (z := z) ?_ ?_ ?_ h1
      · rw [zup_off Z 1 12 0 (j' := 12 + 2) (by omega)]; exact h.1 12 (by omega)
      · rw [zup_off Z 1 12 0 (j' := 12 + 2) (by omega)]; exact hz
      · rw [zup_eq, hz0]; rfl
  · rw [if_pos h1]
    refine ⟨?_, ?_⟩
    · show zup _ 1 _ _ 0 0 = 0
      rw [zup_ne (by omega), zrw_off (by omega)]; exact hc
    · exact MI.reg h hrr (z := z) (h.1 12 (by omega)) hz (hs (by omega)) h1
section M6
variable (l : Launch) (D : va_G) (cI : ClassId) (a : Nat → Nat) (Z : ZZ)
def mtk (Z : ZZ) (i j : Nat) : ZZ := mclr (mmov (mmov (zup Z 0 0 0) 14 i) 15 j) 12
theorem mclr_row {Z : ZZ} {r k : Nat} (hk : k < 2100) : mclr Z r (r + 2) k = 0 := by
  unfold mclr; rw [zup_ne (by omega), zrw_in hk]
theorem mclr_off {Z : ZZ} {r j : Nat} (h1 : j ≠ r + 2) (h2 : j ≠ 1) : mclr Z r j = Z j := by
  unfold mclr; rw [zup_off _ 1 _ _ h2, zrw_off h1]
theorem mclr_sg {Z : ZZ} {r : Nat} : mclr Z r 1 r = 0 := zup_eq _ _ _ _
theorem mclr_sgo {Z : ZZ} {r i : Nat} (h : i ≠ r) : mclr Z r 1 i = Z 1 i := by
  unfold mclr; rw [zup_ne (by omega), zrw_off (by omega)]
theorem mmov_row {Z : ZZ} {r r2 k : Nat} (hk : k < 2100) : mmov Z r r2 (r + 2) k = Z (r2 + 2) k := by
  unfold mmov; rw [zup_ne (by omega), zrw_in hk]
theorem mmov_off {Z : ZZ} {r r2 j : Nat} (h1 : j ≠ r + 2) (h2 : j ≠ 1) : mmov Z r r2 j = Z j := by
  unfold mmov; rw [zup_off _ 1 _ _ h2, zrw_off h1]
theorem mmov_sg {Z : ZZ} {r r2 : Nat} : mmov Z r r2 1 r = Z 1 r2 := zup_eq _ _ _ _
theorem mmov_sgo {Z : ZZ} {r r2 i : Nat} (h : i ≠ r) : mmov Z r r2 1 i = Z 1 i := by
  unfold mmov; rw [zup_ne (by omega), zrw_off (by omega)]
theorem mtk_MI {Z : ZZ} {g : Nat → Int} (h : MI Z g) {i j : Nat} (hi : i < 12) (hj : j < 12) : MI (mtk Z i j) g ∧ mtk Z i j 0 0 = 0 ∧ (∀ k, k < 2100 → mtk Z i j 16 k = Z (i + 2) k) ∧ mtk Z i j 1 14 = Z 1 i ∧ (∀ k, k < 2100 → mtk Z i j 17 k = Z (j + 2) k) ∧ mtk Z i j 1 15 = Z 1 j ∧ (∀ k, k < 2100 → mtk Z i j 14 k = 0) := by
  have h1 := (h.code 0).mov (j := 14) (i := i) (by omega) (by omega)
  have h2 := h1.mov (j := 15) (i := j) (by omega) (by omega)
  have h3 := (h2.row (j := 12) (n := 2100) (f := fun _ => 0) (by omega) (fun i hi => ⟨by show (0 : Int) ≤ 0; omega, by show (0 : Int) < 65536; omega⟩)).sgn (j := 12) (by omega) 0
  refine ⟨h3, ?_, fun k hk => ?_, ?_, fun k hk => ?_, ?_, fun k hk => ?_⟩ <;> unfold mtk
  · rw [mclr_off (by omega) (by omega), mmov_off (by omega) (by omega), mmov_off (by omega) (by omega), zup_eq]
  · rw [mclr_off (by omega) (by omega), mmov_off (by omega) (by omega), mmov_row hk, zup_off _ 0 _ _ (by omega)]
  · rw [mclr_sgo (by omega), mmov_sgo (by omega), mmov_sg, zup_off _ 0 _ _ (by omega)]
  · rw [mclr_off (by omega) (by omega), mmov_row hk, mmov_off (by omega) (by omega), zup_off _ 0 _ _ (by omega)]
  · rw [mclr_sgo (by omega), mmov_sg, mmov_sgo (by omega), zup_off _ 0 _ _ (by omega)]
  · exact mclr_row hk
set_option maxRecDepth 20000 in
theorem kX1_take (r i j : Int) (h0 : i32 r) (h1 : i32 i) (h2 : i32 j) : Ct l D (tM cI) (wM cI a) yX1_take wsX1_take 2 0 46 [.ref (a 0), .int (iZ r), .int (iZ i), .int (iZ j)] Z (fun v Z' => (¬ (isRg r ∧ isRg i ∧ isRg j) ∧ v = some (.int (iZ 0)) ∧ Z' = zup Z 0 0 1) ∨ ((isRg r ∧ isRg i ∧ isRg j) ∧ v = some (.int (iZ 1)) ∧ Z' = mtk Z i.toNat j.toNat)) nX := by
  refine Ct.of (cc := cX1_take) (maxL := 4) (ret := some .boolean) rfl (by decide) rfl (Nat.le_of_ble_eq_true rfl) (fun J hJ => ?_)
  have hin : ∀ w ∈ u_ws RX1 TX1 3, w ∈ wsX1_take := by decide +kernel
  have p0 := isR_spec r
  have p1 := isR_spec i
  have p2 := isR_spec j
  refine j_aload_n hJ dX1_take_0 rfl ?_
  refine j_iload_n hJ dX1_take_1 rfl ?_
  refine j_callS hJ (kX1_isRegister l D _ ⟨by omega, by omega⟩) rfl gX1_take_X1_isRegister rfl hsX1_isRegister rfl ⟨Nat.le_of_ble_eq_true rfl, Nat.le_of_ble_eq_true rfl⟩ (Nat.le_of_ble_eq_true rfl) (Nat.le_of_ble_eq_true rfl) dX1_take_2 (fun _ h => False.elim h) (fun r2 hp2 => ?_)
  subst hp2
  refine j_if_eq (tgt := 26) hJ (by decide) ⟨by omega, by omega⟩ dX1_take_5 (fun h5 => ?_) (fun h5 => ?_)
  · refine j_iconst hJ dX1_take_26 ?_
    refine m_putcode hJ hin (by decide +kernel) dX1_take_27 ?_
    refine j_aload_n hJ dX1_take_30 rfl ?_
    refine m_code hJ hin (by decide +kernel) dX1_take_31 ?_
    rw [zup_eq]
    refine j_if_le (tgt := 39) hJ (by decide) ⟨by omega, by omega⟩ dX1_take_34 (fun h34 => absurd h34 (by decide)) (fun h34 => ?_)
    refine j_iconst hJ dX1_take_37 ?_
    exact j_zret hJ (by decide) (Nat.le_of_ble_eq_true rfl) (Or.inl ⟨by omega, rfl, rfl⟩) dX1_take_38
  · refine j_iload_n hJ dX1_take_8 rfl ?_
    refine j_callS hJ (kX1_isRegister l D _ ⟨by omega, by omega⟩) rfl gX1_take_X1_isRegister rfl hsX1_isRegister rfl ⟨Nat.le_of_ble_eq_true rfl, Nat.le_of_ble_eq_true rfl⟩ (Nat.le_of_ble_eq_true rfl) (Nat.le_of_ble_eq_true rfl) dX1_take_9 (fun _ h => False.elim h) (fun r9 hp9 => ?_)
    subst hp9
    refine j_if_eq (tgt := 26) hJ (by decide) ⟨by omega, by omega⟩ dX1_take_12 (fun h12 => ?_) (fun h12 => ?_)
    · refine j_iconst hJ dX1_take_26 ?_
      refine m_putcode hJ hin (by decide +kernel) dX1_take_27 ?_
      refine j_aload_n hJ dX1_take_30 rfl ?_
      refine m_code hJ hin (by decide +kernel) dX1_take_31 ?_
      rw [zup_eq]
      refine j_if_le (tgt := 39) hJ (by decide) ⟨by omega, by omega⟩ dX1_take_34 (fun h34 => absurd h34 (by decide)) (fun h34 => ?_)
      refine j_iconst hJ dX1_take_37 ?_
      exact j_zret hJ (by decide) (Nat.le_of_ble_eq_true rfl) (Or.inl ⟨by omega, rfl, rfl⟩) dX1_take_38
    · refine j_iload_n hJ dX1_take_15 rfl ?_
      refine j_callS hJ (kX1_isRegister l D _ ⟨by omega, by omega⟩) rfl gX1_take_X1_isRegister rfl hsX1_isRegister rfl ⟨Nat.le_of_ble_eq_true rfl, Nat.le_of_ble_eq_true rfl⟩ (Nat.le_of_ble_eq_true rfl) (Nat.le_of_ble_eq_true rfl) dX1_take_16 (fun _ h => False.elim h) (fun r16 hp16 => ?_)
      subst hp16
      refine j_if_eq (tgt := 26) hJ (by decide) ⟨by omega, by omega⟩ dX1_take_19 (fun h19 => ?_) (fun h19 => ?_)
      · refine j_iconst hJ dX1_take_26 ?_
        refine m_putcode hJ hin (by decide +kernel) dX1_take_27 ?_
        refine j_aload_n hJ dX1_take_30 rfl ?_
        refine m_code hJ hin (by decide +kernel) dX1_take_31 ?_
        rw [zup_eq]
        refine j_if_le (tgt := 39) hJ (by decide) ⟨by omega, by omega⟩ dX1_take_34 (fun h34 => absurd h34 (by decide)) (fun h34 => ?_)
        refine j_iconst hJ dX1_take_37 ?_
        exact j_zret hJ (by decide) (Nat.le_of_ble_eq_true rfl) (Or.inl ⟨by omega, rfl, rfl⟩) dX1_take_38
      · refine j_iconst hJ dX1_take_22 ?_
        refine j_goto (tgt := 27) hJ (by decide) dX1_take_23 ?_
        refine m_putcode hJ hin (by decide +kernel) dX1_take_27 ?_
        refine j_aload_n hJ dX1_take_30 rfl ?_
        refine m_code hJ hin (by decide +kernel) dX1_take_31 ?_
        rw [zup_eq]
        refine j_if_le (tgt := 39) hJ (by decide) ⟨by omega, by omega⟩ dX1_take_34 (fun h34 => ?_) (fun h34 => absurd h34 (by decide))
        refine j_aload_n hJ dX1_take_39 rfl ?_
        refine j_bipush hJ (by decide) dX1_take_40 ?_
        refine j_iload_n hJ dX1_take_42 rfl ?_
        refine j_callV hJ (kX1_move l D cI a _ _ _ ⟨by omega, by omega⟩ ⟨by omega, by omega⟩) rfl gX1_take_X1_move rfl hdX1_move rfl ⟨Nat.le_of_ble_eq_true rfl, Nat.le_of_ble_eq_true rfl⟩ (Nat.le_of_ble_eq_true rfl) (Nat.le_of_ble_eq_true rfl) rfl rfl dX1_take_43 (fun _ _ h => False.elim h) (fun r43 Z43 hp43 => ?_)
        obtain ⟨rfl, rfl⟩ := hp43
        refine j_aload_n hJ dX1_take_46 rfl ?_
        refine j_bipush hJ (by decide) dX1_take_47 ?_
        refine j_iload_n hJ dX1_take_49 rfl ?_
        refine j_callV hJ (kX1_move l D cI a _ _ _ ⟨by omega, by omega⟩ ⟨by omega, by omega⟩) rfl gX1_take_X1_move rfl hdX1_move rfl ⟨Nat.le_of_ble_eq_true rfl, Nat.le_of_ble_eq_true rfl⟩ (Nat.le_of_ble_eq_true rfl) (Nat.le_of_ble_eq_true rfl) rfl rfl dX1_take_50 (fun _ _ h => False.elim h) (fun r50 Z50 hp50 => ?_)
        obtain ⟨rfl, rfl⟩ := hp50
        refine j_aload_n hJ dX1_take_53 rfl ?_
        refine j_bipush hJ (by decide) dX1_take_54 ?_
        refine j_callV hJ (kX1_clear l D cI a _ _ ⟨by omega, by omega⟩) rfl gX1_take_X1_clear rfl hdX1_clear rfl ⟨Nat.le_of_ble_eq_true rfl, Nat.le_of_ble_eq_true rfl⟩ (Nat.le_of_ble_eq_true rfl) (Nat.le_of_ble_eq_true rfl) rfl rfl dX1_take_56 (fun _ _ h => False.elim h) (fun r56 Z56 hp56 => ?_)
        obtain ⟨rfl, rfl⟩ := hp56
        refine j_iconst hJ dX1_take_59 ?_
        exact j_zret hJ (by decide) (Nat.le_of_ble_eq_true rfl) (Or.inr ⟨⟨⟨by omega, by omega⟩, ⟨by omega, by omega⟩, ⟨by omega, by omega⟩⟩, rfl, rfl⟩) dX1_take_60
/-- the two sides of a sum behind take -/
theorem mtk_two {Z : ZZ} {g : Nat → Int} (h : MI Z g) {i j : Nat} (hi : i < 12) (hj : j < 12) : dgs 65536 2100 (mtk Z i j 16) ∧ dgs 65536 2100 (mtk Z i j 17) ∧ vs 65536 (mtk Z i j 16) 2100 = ((g i).natAbs : Int) ∧ vs 65536 (mtk Z i j 17) 2100 = ((g j).natAbs : Int) := by
  obtain ⟨m1, m2, m3, m4, m5, m6, m7⟩ := mtk_MI h hi hj
  refine ⟨fun k hk => by rw [m3 k hk]; exact h.1 i (by omega) k hk, fun k hk => by rw [m5 k hk]; exact h.1 j (by omega) k hk, ?_, ?_⟩
  · rw [vs_congr m3]; exact (h.2 i hi).1
  · rw [vs_congr m5]; exact (h.2 j hj).1
/-- what sum leaves, and what give makes of it -/
theorem sum_MI {T : ZZ} {g : Nat → Int} (h : MI T g) (hc : T 0 0 = 0) {f : Nat → Int} {s z : Int} (hf : dgs 65536 2100 f) (hs : s = 0 ∨ s = 1 ∨ s = -1) (hz : s * vs 65536 f 2100 = z) (h0 : s = 0 → vs 65536 f 2100 = 0) :
    MI (zup (zrw T 14 2100 f) 1 12 s) g ∧ zup (zrw T 14 2100 f) 1 12 s 0 0 = 0 ∧ vs 65536 (zup (zrw T 14 2100 f) 1 12 s 14) 2100 = (z.natAbs : Int) ∧ (z ≠ 0 → zup (zrw T 14 2100 f) 1 12 s 1 12 = z.sign) := by
  have hn := vs_nonneg (by decide) hf
  refine ⟨(h.row (j := 12) (by omega) hf).sgn (by omega) s, ?_, ?_, fun hz0 => ?_⟩
  · rw [zup_ne (by omega), zrw_off (by omega)]; exact hc
  · rw [zup_off _ 1 _ _ (by omega), vs_congr (g := f) (fun k hk => zrw_in hk)]
    rcases hs with rfl | rfl | rfl
    · have := h0 rfl; omega
    · omega
    · omega
  · rw [zup_eq]
    have := sg_cases z
    rcases hs with rfl | rfl | rfl <;> omega
set_option maxRecDepth 20000 in
theorem kX1_add (g : Nat → Int) (hI : MI Z g) (r i j : Int) (h0 : i32 r) (h1 : i32 i) (h2 : i32 j) : Ct l D (tM cI) (wM cI a) yX1_add wsX1_add 3 0 72 [.ref (a 0), .int (iZ r), .int (iZ i), .int (iZ j)] Z (fun v Z' => v = none ∧ Z' 0 0 = (oAdd g r i j).1 ∧ MI Z' (oAdd g r i j).2) nX := by
  refine Ct.of (cc := cX1_add) (maxL := 4) (ret := none) rfl (by decide) rfl (Nat.le_of_ble_eq_true rfl) (fun J hJ => ?_)
  unfold oAdd at hJ
  refine j_aload_n hJ dX1_add_0 rfl ?_
  refine j_iload_n hJ dX1_add_1 rfl ?_
  refine j_iload_n hJ dX1_add_2 rfl ?_
  refine j_iload_n hJ dX1_add_3 rfl ?_
  refine j_callV hJ (kX1_take l D cI a Z r i j h0 h1 h2) rfl gX1_add_X1_take rfl hdX1_take rfl ⟨Nat.le_of_ble_eq_true rfl, Nat.le_of_ble_eq_true rfl⟩ (Nat.le_of_ble_eq_true rfl) (Nat.le_of_ble_eq_true rfl) rfl rfl dX1_add_4 (fun _ _ h => False.elim h) (fun r4 Z4 hp4 => ?_)
  rcases hp4 with ⟨hn, rfl, rfl⟩ | ⟨⟨hr, hi, hj⟩, rfl, rfl⟩
  · rw [if_neg hn] at hJ; exact j_if_ne (tgt := 11) hJ (by decide) ⟨by omega, by omega⟩ dX1_add_7 (fun h => absurd rfl h) (fun _ => j_vret hJ (Nat.le_of_ble_eq_true rfl) ⟨rfl, zup_eq _ _ _ _, hI.code 1⟩ dX1_add_10)
  rw [if_pos ⟨hr, hi, hj⟩] at hJ
  obtain ⟨m1, m2, m3, m4, m5, m6, m7⟩ := mtk_MI hI (i := i.toNat) (j := j.toNat) (by omega) (by omega)
  obtain ⟨t1, t2, t3, t4⟩ := mtk_two hI (i := i.toNat) (j := j.toNat) (by omega) (by omega)
  have g1 := hI.2 i.toNat (by omega)
  have g2 := hI.2 j.toNat (by omega)
  have u1 := sg_mul (g i.toNat)
  have u2 := sg_mul (g j.toNat)
  refine j_if_ne (tgt := 11) hJ (by decide) ⟨by omega, by omega⟩ dX1_add_7 (fun _ => ?_) (fun h => absurd h (by decide))
  refine j_aload_n hJ dX1_add_11 rfl ?_
  refine j_callV hJ (kX1_sum l D cI a _ t1 t2 (by rw [m4, g1.2.1, t3]; exact sg_of _) (by rw [m6, g2.2.1, t4]; exact sg_of _) (by rw [t3]; exact g1.2.2) (by rw [t4]; exact g2.2.2)) rfl gX1_add_X1_sum rfl hdX1_sum rfl ⟨Nat.le_of_ble_eq_true rfl, Nat.le_of_ble_eq_true rfl⟩ (Nat.le_of_ble_eq_true rfl) (Nat.le_of_ble_eq_true rfl) rfl rfl dX1_add_12 (fun _ _ h => False.elim h) (fun r12 Z12 hp12 => ?_)
  obtain ⟨rfl, f, s, rfl, hf, hs, hz, hs0⟩ := hp12
  rw [m4, m6, g1.2.1, g2.2.1, t3, t4, u1, u2] at hz
  obtain ⟨w1, w2, w3, w4⟩ := sum_MI m1 m2 hf hs hz hs0
  refine j_aload_n hJ dX1_add_15 rfl ?_
  refine j_iload_n hJ dX1_add_16 rfl ?_
  refine j_callV hJ (kX1_give l D cI a _ _ ⟨by omega, by omega⟩ (w1.1 12 (by omega))) rfl gX1_add_X1_give rfl hdX1_give rfl ⟨Nat.le_of_ble_eq_true rfl, Nat.le_of_ble_eq_true rfl⟩ (Nat.le_of_ble_eq_true rfl) (Nat.le_of_ble_eq_true rfl) rfl rfl dX1_add_17 (fun _ _ h => False.elim h) (fun r17 Z17 hp17 => ?_)
  obtain ⟨rfl, hg⟩ := hp17
  exact j_vret hJ (Nat.le_of_ble_eq_true rfl) (⟨rfl, give_MI w1 hr w3 w4 w2 hg⟩) dX1_add_20
set_option maxRecDepth 20000 in
theorem kX1_subtract (g : Nat → Int) (hI : MI Z g) (r i j : Int) (h0 : i32 r) (h1 : i32 i) (h2 : i32 j) : Ct l D (tM cI) (wM cI a) yX1_subtract wsX1_subtract 3 0 72 [.ref (a 0), .int (iZ r), .int (iZ i), .int (iZ j)] Z (fun v Z' => v = none ∧ Z' 0 0 = (oSub g r i j).1 ∧ MI Z' (oSub g r i j).2) nX := by
  refine Ct.of (cc := cX1_subtract) (maxL := 4) (ret := none) rfl (by decide) rfl (Nat.le_of_ble_eq_true rfl) (fun J hJ => ?_)
  have hin : ∀ w ∈ u_ws RX1 TX1 3, w ∈ wsX1_subtract := by decide +kernel
  unfold oSub at hJ
  refine j_aload_n hJ dX1_subtract_0 rfl ?_
  refine j_iload_n hJ dX1_subtract_1 rfl ?_
  refine j_iload_n hJ dX1_subtract_2 rfl ?_
  refine j_iload_n hJ dX1_subtract_3 rfl ?_
  refine j_callV hJ (kX1_take l D cI a Z r i j h0 h1 h2) rfl gX1_subtract_X1_take rfl hdX1_take rfl ⟨Nat.le_of_ble_eq_true rfl, Nat.le_of_ble_eq_true rfl⟩ (Nat.le_of_ble_eq_true rfl) (Nat.le_of_ble_eq_true rfl) rfl rfl dX1_subtract_4 (fun _ _ h => False.elim h) (fun r4 Z4 hp4 => ?_)
  rcases hp4 with ⟨hn, rfl, rfl⟩ | ⟨⟨hr, hi, hj⟩, rfl, rfl⟩
  · rw [if_neg hn] at hJ; exact j_if_ne (tgt := 11) hJ (by decide) ⟨by omega, by omega⟩ dX1_subtract_7 (fun h => absurd rfl h) (fun _ => j_vret hJ (Nat.le_of_ble_eq_true rfl) ⟨rfl, zup_eq _ _ _ _, hI.code 1⟩ dX1_subtract_10)
  rw [if_pos ⟨hr, hi, hj⟩] at hJ
  obtain ⟨m1, m2, m3, m4, m5, m6, m7⟩ := mtk_MI hI (i := i.toNat) (j := j.toNat) (by omega) (by omega)
  obtain ⟨t1, t2, t3, t4⟩ := mtk_two hI (i := i.toNat) (j := j.toNat) (by omega) (by omega)
  have g1 := hI.2 i.toNat (by omega)
  have g2 := hI.2 j.toNat (by omega)
  have u1 := sg_mul (g i.toNat)
  have u2 := sg_mul (g j.toNat)
  have c2 := sg_cases (g j.toNat)
  refine j_if_ne (tgt := 11) hJ (by decide) ⟨by omega, by omega⟩ dX1_subtract_7 (fun _ => ?_) (fun h => absurd h (by decide))
  refine j_aload_n hJ dX1_subtract_11 rfl ?_
  refine m_sign hJ hin (by decide +kernel) dX1_subtract_12 ?_
  refine j_bipush hJ (by decide) dX1_subtract_15 ?_
  refine j_aload_n hJ dX1_subtract_17 rfl ?_
  refine m_sign hJ hin (by decide +kernel) dX1_subtract_18 ?_
  refine j_bipush hJ (by decide) dX1_subtract_21 ?_
  refine m_ald_sg hJ ⟨by omega, by omega⟩ dX1_subtract_23 ?_
  refine j_ineg hJ dX1_subtract_24 ?_
  refine m_ast_sg hJ ⟨by omega, by omega⟩ dX1_subtract_25 ?_
  rw [show (15 : Int).toNat = 15 from rfl, m6, g2.2.1]
  have m1' := m1.sgn (j := 15) (by omega) (-(g j.toNat).sign)
  have x16 := zup_off (mtk Z i.toNat j.toNat) 1 15 (-(g j.toNat).sign) (j' := 16) (by omega)
  have x17 := zup_off (mtk Z i.toNat j.toNat) 1 15 (-(g j.toNat).sign) (j' := 17) (by omega)
  have x14 : zup (mtk Z i.toNat j.toNat) 1 15 (-(g j.toNat).sign) 1 14 = _ := zup_ne (by omega)
  have x15 := zup_eq (mtk Z i.toNat j.toNat) 1 15 (-(g j.toNat).sign)
  have x00 : zup (mtk Z i.toNat j.toNat) 1 15 (-(g j.toNat).sign) 0 0 = _ := zup_ne (by omega)
  generalize zup (mtk Z i.toNat j.toNat) 1 15 (-(g j.toNat).sign) = T at m1' x16 x17 x14 x15 x00 ⊢
  refine j_aload_n hJ dX1_subtract_26 rfl ?_
  refine j_callV hJ (kX1_sum l D cI a _ (by rw [x16]; exact t1) (by rw [x17]; exact t2) (by rw [x14, m4, g1.2.1, x16, t3]; exact sg_of _) (by rw [x15, x17, t4]; unfold sgOK; omega) (by rw [x16, t3]; exact g1.2.2) (by rw [x17, t4]; exact g2.2.2)) rfl gX1_subtract_X1_sum rfl hdX1_sum rfl ⟨Nat.le_of_ble_eq_true rfl, Nat.le_of_ble_eq_true rfl⟩ (Nat.le_of_ble_eq_true rfl) (Nat.le_of_ble_eq_true rfl) rfl rfl dX1_subtract_27 (fun _ _ h => False.elim h) (fun r27 Z27 hp27 => ?_)
  obtain ⟨rfl, f, s, rfl, hf, hs, hz, hs0⟩ := hp27
  rw [x14, x15, x16, x17, m4, g1.2.1, t3, t4, u1, Int.neg_mul, u2, ← Int.sub_eq_add_neg] at hz
  obtain ⟨w1, w2, w3, w4⟩ := sum_MI m1' (x00.trans m2) hf hs hz hs0
  refine j_aload_n hJ dX1_subtract_30 rfl ?_
  refine j_iload_n hJ dX1_subtract_31 rfl ?_
  refine j_callV hJ (kX1_give l D cI a _ _ ⟨by omega, by omega⟩ (w1.1 12 (by omega))) rfl gX1_subtract_X1_give rfl hdX1_give rfl ⟨Nat.le_of_ble_eq_true rfl, Nat.le_of_ble_eq_true rfl⟩ (Nat.le_of_ble_eq_true rfl) (Nat.le_of_ble_eq_true rfl) rfl rfl dX1_subtract_32 (fun _ _ h => False.elim h) (fun r32 Z32 hp32 => ?_)
  obtain ⟨rfl, hg⟩ := hp32
  exact j_vret hJ (Nat.le_of_ble_eq_true rfl) (⟨rfl, give_MI w1 hr w3 w4 w2 hg⟩) dX1_subtract_35
end M6
end
section
section M7
variable (l : Launch) (D : va_G) (cI : ClassId) (a : Nat → Nat) (Z : ZZ)
set_option maxRecDepth 20000 in
theorem kX1_negate (g : Nat → Int) (hI : MI Z g) (r : Int) (h0 : i32 r) : Ct l D (tM cI) (wM cI a) yX1_negate wsX1_negate 1 0 20 [.ref (a 0), .int (iZ r)] Z (fun v Z' => v = none ∧ Z' 0 0 = (oNeg g r).1 ∧ MI Z' (oNeg g r).2) nX := by
  refine Ct.of (cc := cX1_negate) (maxL := 2) (ret := none) rfl (by decide) rfl (Nat.le_of_ble_eq_true rfl) (fun J hJ => ?_)
  have hin : ∀ w ∈ u_ws RX1 TX1 3, w ∈ wsX1_negate := by decide +kernel
  unfold oNeg at hJ
  have p0 := isR_spec r
  refine j_aload_n hJ dX1_negate_0 rfl ?_
  refine j_iload_n hJ dX1_negate_1 rfl ?_
  refine j_callS hJ (kX1_isRegister l D _ ⟨by omega, by omega⟩) rfl gX1_negate_X1_isRegister rfl hsX1_isRegister rfl ⟨Nat.le_of_ble_eq_true rfl, Nat.le_of_ble_eq_true rfl⟩ (Nat.le_of_ble_eq_true rfl) (Nat.le_of_ble_eq_true rfl) dX1_negate_2 (fun _ h => False.elim h) (fun r2 hp2 => ?_)
  subst hp2
  refine j_if_eq (tgt := 12) hJ (by decide) ⟨by omega, by omega⟩ dX1_negate_5 (fun h5 => ?_) (fun h5 => ?_)
  · rw [if_neg (by omega)] at hJ
    refine j_iconst hJ dX1_negate_12 ?_
    refine m_putcode hJ hin (by decide +kernel) dX1_negate_13 ?_
    refine j_aload_n hJ dX1_negate_16 rfl ?_
    refine m_code hJ hin (by decide +kernel) dX1_negate_17 ?_
    rw [zup_eq]
    refine j_if_ne (tgt := 36) hJ (by decide) ⟨by omega, by omega⟩ dX1_negate_20 (fun h20 => ?_) (fun h20 => absurd h20 (by decide))
    exact j_vret hJ (Nat.le_of_ble_eq_true rfl) (⟨rfl, by first | exact ⟨zup_eq _ _ _ _, hI.code 1⟩ | (refine ⟨by rw [zup_ne (by omega), zup_eq], ?_⟩; rw [zup_off Z 0 0 0 (j' := 1) (by omega), (hI.2 r.toNat (by omega)).2.1]; exact MI_neg (hI.code 0) (by omega))⟩) dX1_negate_36
  · rw [if_pos ⟨by omega, by omega⟩] at hJ
    refine j_iconst hJ dX1_negate_8 ?_
    refine j_goto (tgt := 13) hJ (by decide) dX1_negate_9 ?_
    refine m_putcode hJ hin (by decide +kernel) dX1_negate_13 ?_
    refine j_aload_n hJ dX1_negate_16 rfl ?_
    refine m_code hJ hin (by decide +kernel) dX1_negate_17 ?_
    rw [zup_eq]
    refine j_if_ne (tgt := 36) hJ (by decide) ⟨by omega, by omega⟩ dX1_negate_20 (fun h20 => absurd h20 (by decide)) (fun h20 => ?_)
    refine j_aload_n hJ dX1_negate_23 rfl ?_
    refine m_sign hJ hin (by decide +kernel) dX1_negate_24 ?_
    refine j_iload_n hJ dX1_negate_27 rfl ?_
    refine j_aload_n hJ dX1_negate_28 rfl ?_
    refine m_sign hJ hin (by decide +kernel) dX1_negate_29 ?_
    refine j_iload_n hJ dX1_negate_32 rfl ?_
    refine m_ald_sg hJ ⟨by omega, by omega⟩ dX1_negate_33 ?_
    refine j_ineg hJ dX1_negate_34 ?_
    refine m_ast_sg hJ ⟨by omega, by omega⟩ dX1_negate_35 ?_
    exact j_vret hJ (Nat.le_of_ble_eq_true rfl) (⟨rfl, by first | exact ⟨zup_eq _ _ _ _, hI.code 1⟩ | (refine ⟨by rw [zup_ne (by omega), zup_eq], ?_⟩; rw [zup_off Z 0 0 0 (j' := 1) (by omega), (hI.2 r.toNat (by omega)).2.1]; exact MI_neg (hI.code 0) (by omega))⟩) dX1_negate_36
set_option maxRecDepth 20000 in
theorem kX1_copy (g : Nat → Int) (hI : MI Z g) (r i : Int) (h0 : i32 r) (h1 : i32 i) : Ct l D (tM cI) (wM cI a) yX1_copy wsX1_copy 2 0 46 [.ref (a 0), .int (iZ r), .int (iZ i)] Z (fun v Z' => v = none ∧ Z' 0 0 = (oCopy g r i).1 ∧ MI Z' (oCopy g r i).2) nX := by
  refine Ct.of (cc := cX1_copy) (maxL := 3) (ret := none) rfl (by decide) rfl (Nat.le_of_ble_eq_true rfl) (fun J hJ => ?_)
  have hin : ∀ w ∈ u_ws RX1 TX1 3, w ∈ wsX1_copy := by decide +kernel
  unfold oCopy at hJ
  have p0 := isR_spec r
  have p1 := isR_spec i
  refine j_aload_n hJ dX1_copy_0 rfl ?_
  refine j_iload_n hJ dX1_copy_1 rfl ?_
  refine j_callS hJ (kX1_isRegister l D _ ⟨by omega, by omega⟩) rfl gX1_copy_X1_isRegister rfl hsX1_isRegister rfl ⟨Nat.le_of_ble_eq_true rfl, Nat.le_of_ble_eq_true rfl⟩ (Nat.le_of_ble_eq_true rfl) (Nat.le_of_ble_eq_true rfl) dX1_copy_2 (fun _ h => False.elim h) (fun r2 hp2 => ?_)
  subst hp2
  refine j_if_eq (tgt := 19) hJ (by decide) ⟨by omega, by omega⟩ dX1_copy_5 (fun h5 => ?_) (fun h5 => ?_)
  · rw [if_neg (by omega)] at hJ
    refine j_iconst hJ dX1_copy_19 ?_
    refine m_putcode hJ hin (by decide +kernel) dX1_copy_20 ?_
    refine j_aload_n hJ dX1_copy_23 rfl ?_
    refine m_code hJ hin (by decide +kernel) dX1_copy_24 ?_
    rw [zup_eq]
    refine j_if_ne (tgt := 36) hJ (by decide) ⟨by omega, by omega⟩ dX1_copy_27 (fun h27 => ?_) (fun h27 => absurd h27 (by decide))
    exact j_vret hJ (Nat.le_of_ble_eq_true rfl) (⟨rfl, by first | exact ⟨zup_eq _ _ _ _, hI.code 1⟩ | (refine ⟨by rw [mmov_off (by omega) (by omega), zup_eq], ?_⟩; have g2 := hc.2 i.toNat (by omega); exact MI.reg hc (by omega) (hc.1 i.toNat (by omega)) g2.1 g2.2.1 g2.2.2)⟩) dX1_copy_36
  · refine j_iload_n hJ dX1_copy_8 rfl ?_
    refine j_callS hJ (kX1_isRegister l D _ ⟨by omega, by omega⟩) rfl gX1_copy_X1_isRegister rfl hsX1_isRegister rfl ⟨Nat.le_of_ble_eq_true rfl, Nat.le_of_ble_eq_true rfl⟩ (Nat.le_of_ble_eq_true rfl) (Nat.le_of_ble_eq_true rfl) dX1_copy_9 (fun _ h => False.elim h) (fun r9 hp9 => ?_)
    subst hp9
    refine j_if_eq (tgt := 19) hJ (by decide) ⟨by omega, by omega⟩ dX1_copy_12 (fun h12 => ?_) (fun h12 => ?_)
    · rw [if_neg (by omega)] at hJ
      refine j_iconst hJ dX1_copy_19 ?_
      refine m_putcode hJ hin (by decide +kernel) dX1_copy_20 ?_
      refine j_aload_n hJ dX1_copy_23 rfl ?_
      refine m_code hJ hin (by decide +kernel) dX1_copy_24 ?_
      rw [zup_eq]
      refine j_if_ne (tgt := 36) hJ (by decide) ⟨by omega, by omega⟩ dX1_copy_27 (fun h27 => ?_) (fun h27 => absurd h27 (by decide))
      exact j_vret hJ (Nat.le_of_ble_eq_true rfl) (⟨rfl, by first | exact ⟨zup_eq _ _ _ _, hI.code 1⟩ | (refine ⟨by rw [mmov_off (by omega) (by omega), zup_eq], ?_⟩; have g2 := hc.2 i.toNat (by omega); exact MI.reg hc (by omega) (hc.1 i.toNat (by omega)) g2.1 g2.2.1 g2.2.2)⟩) dX1_copy_36
    · rw [if_pos ⟨⟨by omega, by omega⟩, ⟨by omega, by omega⟩⟩] at hJ
      have g1 := hI.2 i.toNat (by omega)
      have hc := hI.code 0
      refine j_iconst hJ dX1_copy_15 ?_
      refine j_goto (tgt := 20) hJ (by decide) dX1_copy_16 ?_
      refine m_putcode hJ hin (by decide +kernel) dX1_copy_20 ?_
      refine j_aload_n hJ dX1_copy_23 rfl ?_
      refine m_code hJ hin (by decide +kernel) dX1_copy_24 ?_
      rw [zup_eq]
      refine j_if_ne (tgt := 36) hJ (by decide) ⟨by omega, by omega⟩ dX1_copy_27 (fun h27 => absurd h27 (by decide)) (fun h27 => ?_)
      refine j_aload_n hJ dX1_copy_30 rfl ?_
      refine j_iload_n hJ dX1_copy_31 rfl ?_
      refine j_iload_n hJ dX1_copy_32 rfl ?_
      refine j_callV hJ (kX1_move l D cI a _ _ _ ⟨by omega, by omega⟩ ⟨by omega, by omega⟩) rfl gX1_copy_X1_move rfl hdX1_move rfl ⟨Nat.le_of_ble_eq_true rfl, Nat.le_of_ble_eq_true rfl⟩ (Nat.le_of_ble_eq_true rfl) (Nat.le_of_ble_eq_true rfl) rfl rfl dX1_copy_33 (fun _ _ h => False.elim h) (fun r33 Z33 hp33 => ?_)
      obtain ⟨rfl, rfl⟩ := hp33
      exact j_vret hJ (Nat.le_of_ble_eq_true rfl) (⟨rfl, by first | exact ⟨zup_eq _ _ _ _, hI.code 1⟩ | (refine ⟨by rw [mmov_off (by omega) (by omega), zup_eq], ?_⟩; have g2 := hc.2 i.toNat (by omega); exact MI.reg hc (by omega) (hc.1 i.toNat (by omega)) g2.1 g2.2.1 g2.2.2)⟩) dX1_copy_36
set_option maxRecDepth 20000 in
theorem kX1_sign (g : Nat → Int) (hI : MI Z g) (r : Int) (h0 : i32 r) : Ct l D (tM cI) (wM cI a) yX1_sign wsX1_sign 1 0 20 [.ref (a 0), .int (iZ r)] Z (fun v Z' => v = some (.int (iZ (oSign g r).2)) ∧ Z' 0 0 = (oSign g r).1 ∧ MI Z' g) nX := by
  refine Ct.of (cc := cX1_sign) (maxL := 2) (ret := some .int) rfl (by decide) rfl (Nat.le_of_ble_eq_true rfl) (fun J hJ => ?_)
  have hin : ∀ w ∈ u_ws RX1 TX1 3, w ∈ wsX1_sign := by decide +kernel
  unfold oSign at hJ
  have p0 := isR_spec r
  refine j_aload_n hJ dX1_sign_0 rfl ?_
  refine j_iload_n hJ dX1_sign_1 rfl ?_
  refine j_callS hJ (kX1_isRegister l D _ ⟨by omega, by omega⟩) rfl gX1_sign_X1_isRegister rfl hsX1_isRegister rfl ⟨Nat.le_of_ble_eq_true rfl, Nat.le_of_ble_eq_true rfl⟩ (Nat.le_of_ble_eq_true rfl) (Nat.le_of_ble_eq_true rfl) dX1_sign_2 (fun _ h => False.elim h) (fun r2 hp2 => ?_)
  subst hp2
  refine j_if_eq (tgt := 12) hJ (by decide) ⟨by omega, by omega⟩ dX1_sign_5 (fun h5 => ?_) (fun h5 => ?_)
  · rw [if_neg (by omega)] at hJ
    refine j_iconst hJ dX1_sign_12 ?_
    refine m_putcode hJ hin (by decide +kernel) dX1_sign_13 ?_
    refine j_aload_n hJ dX1_sign_16 rfl ?_
    refine m_code hJ hin (by decide +kernel) dX1_sign_17 ?_
    rw [zup_eq]
    refine j_if_le (tgt := 27) hJ (by decide) ⟨by omega, by omega⟩ dX1_sign_20 (fun h20 => absurd h20 (by decide)) (fun h20 => ?_)
    refine j_iconst hJ dX1_sign_23 ?_
    refine j_goto (tgt := 33) hJ (by decide) dX1_sign_24 ?_
    exact j_iret hJ (Nat.le_of_ble_eq_true rfl) (by first | exact ⟨rfl, zup_eq _ _ _ _, hI.code 1⟩ | exact ⟨by rw [zup_off Z 0 0 0 (j' := 1) (by omega), (hI.2 r.toNat (by omega)).2.1], zup_eq _ _ _ _, hI.code 0⟩) dX1_sign_33
  · rw [if_pos ⟨by omega, by omega⟩] at hJ
    refine j_iconst hJ dX1_sign_8 ?_
    refine j_goto (tgt := 13) hJ (by decide) dX1_sign_9 ?_
    refine m_putcode hJ hin (by decide +kernel) dX1_sign_13 ?_
    refine j_aload_n hJ dX1_sign_16 rfl ?_
    refine m_code hJ hin (by decide +kernel) dX1_sign_17 ?_
    rw [zup_eq]
    refine j_if_le (tgt := 27) hJ (by decide) ⟨by omega, by omega⟩ dX1_sign_20 (fun h20 => ?_) (fun h20 => absurd h20 (by decide))
    refine j_aload_n hJ dX1_sign_27 rfl ?_
    refine m_sign hJ hin (by decide +kernel) dX1_sign_28 ?_
    refine j_iload_n hJ dX1_sign_31 rfl ?_
    refine m_ald_sg hJ ⟨by omega, by omega⟩ dX1_sign_32 ?_
    exact j_iret hJ (Nat.le_of_ble_eq_true rfl) (by first | exact ⟨rfl, zup_eq _ _ _ _, hI.code 1⟩ | exact ⟨by rw [zup_off Z 0 0 0 (j' := 1) (by omega), (hI.2 r.toNat (by omega)).2.1], zup_eq _ _ _ _, hI.code 0⟩) dX1_sign_33
set_option maxRecDepth 20000 in
theorem kX1_bits (g : Nat → Int) (hI : MI Z g) (r : Int) (h0 : i32 r) : Ct l D (tM cI) (wM cI a) yX1_bits wsX1_bits 3 0 68 [.ref (a 0), .int (iZ r)] Z (fun v Z' => v = some (.int (iZ (oBits g r).2)) ∧ Z' 0 0 = (oBits g r).1 ∧ MI Z' g) nX := by
  refine Ct.of (cc := cX1_bits) (maxL := 2) (ret := some .int) rfl (by decide) rfl (Nat.le_of_ble_eq_true rfl) (fun J hJ => ?_)
  have hin : ∀ w ∈ u_ws RX1 TX1 3, w ∈ wsX1_bits := by decide +kernel
  unfold oBits at hJ
  have p0 := isR_spec r
  refine j_aload_n hJ dX1_bits_0 rfl ?_
  refine j_iload_n hJ dX1_bits_1 rfl ?_
  refine j_callS hJ (kX1_isRegister l D _ ⟨by omega, by omega⟩) rfl gX1_bits_X1_isRegister rfl hsX1_isRegister rfl ⟨Nat.le_of_ble_eq_true rfl, Nat.le_of_ble_eq_true rfl⟩ (Nat.le_of_ble_eq_true rfl) (Nat.le_of_ble_eq_true rfl) dX1_bits_2 (fun _ h => False.elim h) (fun r2 hp2 => ?_)
  subst hp2
  refine j_if_eq (tgt := 12) hJ (by decide) ⟨by omega, by omega⟩ dX1_bits_5 (fun h5 => ?_) (fun h5 => ?_)
  · rw [if_neg (by omega)] at hJ
    refine j_iconst hJ dX1_bits_12 ?_
    refine m_putcode hJ hin (by decide +kernel) dX1_bits_13 ?_
    refine j_aload_n hJ dX1_bits_16 rfl ?_
    refine m_code hJ hin (by decide +kernel) dX1_bits_17 ?_
    rw [zup_eq]
    refine j_if_le (tgt := 27) hJ (by decide) ⟨by omega, by omega⟩ dX1_bits_20 (fun h20 => absurd h20 (by decide)) (fun h20 => ?_)
    refine j_iconst hJ dX1_bits_23 ?_
    refine j_goto (tgt := 32) hJ (by decide) dX1_bits_24 ?_
    exact j_iret hJ (Nat.le_of_ble_eq_true rfl) (by first | exact ⟨rfl, zup_eq _ _ _ _, hI.code 1⟩ | (refine ⟨?_, zup_eq _ _ _ _, hI.code 0⟩; rw [((hI.code 0).2 r.toNat (by omega)).1] at hz; rw [bl_eq hz])) dX1_bits_32
  · rw [if_pos ⟨by omega, by omega⟩] at hJ
    refine j_iconst hJ dX1_bits_8 ?_
    refine j_goto (tgt := 13) hJ (by decide) dX1_bits_9 ?_
    refine m_putcode hJ hin (by decide +kernel) dX1_bits_13 ?_
    refine j_aload_n hJ dX1_bits_16 rfl ?_
    refine m_code hJ hin (by decide +kernel) dX1_bits_17 ?_
    rw [zup_eq]
    refine j_if_le (tgt := 27) hJ (by decide) ⟨by omega, by omega⟩ dX1_bits_20 (fun h20 => ?_) (fun h20 => absurd h20 (by decide))
    refine j_aload_n hJ dX1_bits_27 rfl ?_
    refine j_iload_n hJ dX1_bits_28 rfl ?_
    refine j_callV hJ (kX1_bitsOf l D cI a _ _ ⟨by omega, by omega⟩ ((hI.code 0).1 r.toNat (by omega))) rfl gX1_bits_X1_bitsOf rfl hdX1_bitsOf rfl ⟨Nat.le_of_ble_eq_true rfl, Nat.le_of_ble_eq_true rfl⟩ (Nat.le_of_ble_eq_true rfl) (Nat.le_of_ble_eq_true rfl) rfl rfl dX1_bits_29 (fun _ _ h => False.elim h) (fun r29 Z29 hp29 => ?_)
    obtain ⟨⟨z, rfl, hz, hz2⟩, rfl⟩ := hp29
    exact j_iret hJ (Nat.le_of_ble_eq_true rfl) (by first | exact ⟨rfl, zup_eq _ _ _ _, hI.code 1⟩ | (refine ⟨?_, zup_eq _ _ _ _, hI.code 0⟩; rw [((hI.code 0).2 r.toNat (by omega)).1] at hz; rw [bl_eq hz])) dX1_bits_32
set_option maxRecDepth 20000 in
theorem kX1_compareSizes (g : Nat → Int) (hI : MI Z g) (r i : Int) (h0 : i32 r) (h1 : i32 i) : Ct l D (tM cI) (wM cI a) yX1_compareSizes wsX1_compareSizes 2 0 45 [.ref (a 0), .int (iZ r), .int (iZ i)] Z (fun v Z' => v = some (.int (iZ (oCmpS g r i).2)) ∧ Z' 0 0 = (oCmpS g r i).1 ∧ MI Z' g) nX := by
  refine Ct.of (cc := cX1_compareSizes) (maxL := 3) (ret := some .int) rfl (by decide) rfl (Nat.le_of_ble_eq_true rfl) (fun J hJ => ?_)
  have hin : ∀ w ∈ u_ws RX1 TX1 3, w ∈ wsX1_compareSizes := by decide +kernel
  unfold oCmpS at hJ
  have p0 := isR_spec r
  have p1 := isR_spec i
  refine j_aload_n hJ dX1_compareSizes_0 rfl ?_
  refine j_iload_n hJ dX1_compareSizes_1 rfl ?_
  refine j_callS hJ (kX1_isRegister l D _ ⟨by omega, by omega⟩) rfl gX1_compareSizes_X1_isRegister rfl hsX1_isRegister rfl ⟨Nat.le_of_ble_eq_true rfl, Nat.le_of_ble_eq_true rfl⟩ (Nat.le_of_ble_eq_true rfl) (Nat.le_of_ble_eq_true rfl) dX1_compareSizes_2 (fun _ h => False.elim h) (fun r2 hp2 => ?_)
  subst hp2
  refine j_if_eq (tgt := 19) hJ (by decide) ⟨by omega, by omega⟩ dX1_compareSizes_5 (fun h5 => ?_) (fun h5 => ?_)
  · rw [if_neg (by omega)] at hJ
    refine j_iconst hJ dX1_compareSizes_19 ?_
    refine m_putcode hJ hin (by decide +kernel) dX1_compareSizes_20 ?_
    refine j_aload_n hJ dX1_compareSizes_23 rfl ?_
    refine m_code hJ hin (by decide +kernel) dX1_compareSizes_24 ?_
    rw [zup_eq]
    refine j_if_le (tgt := 34) hJ (by decide) ⟨by omega, by omega⟩ dX1_compareSizes_27 (fun h27 => absurd h27 (by decide)) (fun h27 => ?_)
    refine j_iconst hJ dX1_compareSizes_30 ?_
    refine j_goto (tgt := 40) hJ (by decide) dX1_compareSizes_31 ?_
    exact j_iret hJ (Nat.le_of_ble_eq_true rfl) (by first | exact ⟨rfl, zup_eq _ _ _ _, hI.code 1⟩ | exact ⟨rfl, zup_eq _ _ _ _, hc⟩) dX1_compareSizes_40
  · refine j_iload_n hJ dX1_compareSizes_8 rfl ?_
    refine j_callS hJ (kX1_isRegister l D _ ⟨by omega, by omega⟩) rfl gX1_compareSizes_X1_isRegister rfl hsX1_isRegister rfl ⟨Nat.le_of_ble_eq_true rfl, Nat.le_of_ble_eq_true rfl⟩ (Nat.le_of_ble_eq_true rfl) (Nat.le_of_ble_eq_true rfl) dX1_compareSizes_9 (fun _ h => False.elim h) (fun r9 hp9 => ?_)
    subst hp9
    refine j_if_eq (tgt := 19) hJ (by decide) ⟨by omega, by omega⟩ dX1_compareSizes_12 (fun h12 => ?_) (fun h12 => ?_)
    · rw [if_neg (by omega)] at hJ
      refine j_iconst hJ dX1_compareSizes_19 ?_
      refine m_putcode hJ hin (by decide +kernel) dX1_compareSizes_20 ?_
      refine j_aload_n hJ dX1_compareSizes_23 rfl ?_
      refine m_code hJ hin (by decide +kernel) dX1_compareSizes_24 ?_
      rw [zup_eq]
      refine j_if_le (tgt := 34) hJ (by decide) ⟨by omega, by omega⟩ dX1_compareSizes_27 (fun h27 => absurd h27 (by decide)) (fun h27 => ?_)
      refine j_iconst hJ dX1_compareSizes_30 ?_
      refine j_goto (tgt := 40) hJ (by decide) dX1_compareSizes_31 ?_
      exact j_iret hJ (Nat.le_of_ble_eq_true rfl) (by first | exact ⟨rfl, zup_eq _ _ _ _, hI.code 1⟩ | exact ⟨rfl, zup_eq _ _ _ _, hc⟩) dX1_compareSizes_40
    · rw [if_pos ⟨⟨by omega, by omega⟩, ⟨by omega, by omega⟩⟩] at hJ
      have hc := hI.code 0
      refine j_iconst hJ dX1_compareSizes_15 ?_
      refine j_goto (tgt := 20) hJ (by decide) dX1_compareSizes_16 ?_
      refine m_putcode hJ hin (by decide +kernel) dX1_compareSizes_20 ?_
      refine j_aload_n hJ dX1_compareSizes_23 rfl ?_
      refine m_code hJ hin (by decide +kernel) dX1_compareSizes_24 ?_
      rw [zup_eq]
      refine j_if_le (tgt := 34) hJ (by decide) ⟨by omega, by omega⟩ dX1_compareSizes_27 (fun h27 => ?_) (fun h27 => absurd h27 (by decide))
      refine j_aload_n hJ dX1_compareSizes_34 rfl ?_
      refine j_iload_n hJ dX1_compareSizes_35 rfl ?_
      refine j_iload_n hJ dX1_compareSizes_36 rfl ?_
      refine j_callV hJ (kX1_order l D cI a _ _ _ ⟨by omega, by omega⟩ ⟨by omega, by omega⟩ (hc.1 r.toNat (by omega)) (hc.1 i.toNat (by omega))) rfl gX1_compareSizes_X1_order rfl hdX1_order rfl ⟨Nat.le_of_ble_eq_true rfl, Nat.le_of_ble_eq_true rfl⟩ (Nat.le_of_ble_eq_true rfl) (Nat.le_of_ble_eq_true rfl) rfl rfl dX1_compareSizes_37 (fun _ _ h => False.elim h) (fun r37 Z37 hp37 => ?_)
      obtain ⟨rfl, rfl⟩ := hp37
      rw [(hc.2 r.toNat (by omega)).1, (hc.2 i.toNat (by omega)).1]
      exact j_iret hJ (Nat.le_of_ble_eq_true rfl) (by first | exact ⟨rfl, zup_eq _ _ _ _, hI.code 1⟩ | exact ⟨rfl, zup_eq _ _ _ _, hc⟩) dX1_compareSizes_40
theorem cz_neg (x y : Int) : cz x y = cz (-y) (-x) := by
  have h1 := cz_spec x y
  have h2 := cz_spec (-y) (-x)
  omega
set_option maxRecDepth 20000 in
theorem kX1_compare (g : Nat → Int) (hI : MI Z g) (r i : Int) (h0 : i32 r) (h1 : i32 i) : Ct l D (tM cI) (wM cI a) yX1_compare wsX1_compare 2 0 45 [.ref (a 0), .int (iZ r), .int (iZ i)] Z (fun v Z' => v = some (.int (iZ (oCmp g r i).2)) ∧ Z' 0 0 = (oCmp g r i).1 ∧ MI Z' g) nX := by
  refine Ct.of (cc := cX1_compare) (maxL := 3) (ret := some .int) rfl (by decide) rfl (Nat.le_of_ble_eq_true rfl) (fun J hJ => ?_)
  have hin : ∀ w ∈ u_ws RX1 TX1 3, w ∈ wsX1_compare := by decide +kernel
  unfold oCmp at hJ
  have p0 := isR_spec r
  have p1 := isR_spec i
  have cs := cz_spec (g r.toNat) (g i.toNat)
  have c1 := sg_cases (g r.toNat)
  have c2 := sg_cases (g i.toNat)
  have z1 := cz_spec ((g r.toNat).natAbs) ((g i.toNat).natAbs)
  have z2 := cz_spec ((g i.toNat).natAbs) ((g r.toNat).natAbs)
  refine j_aload_n hJ dX1_compare_0 rfl ?_
  refine j_iload_n hJ dX1_compare_1 rfl ?_
  refine j_callS hJ (kX1_isRegister l D _ ⟨by omega, by omega⟩) rfl gX1_compare_X1_isRegister rfl hsX1_isRegister rfl ⟨Nat.le_of_ble_eq_true rfl, Nat.le_of_ble_eq_true rfl⟩ (Nat.le_of_ble_eq_true rfl) (Nat.le_of_ble_eq_true rfl) dX1_compare_2 (fun _ h => False.elim h) (fun r2 hp2 => ?_)
  subst hp2
  refine j_if_eq (tgt := 19) hJ (by decide) ⟨by omega, by omega⟩ dX1_compare_5 (fun h5 => ?_) (fun h5 => ?_)
  · rw [if_neg (by omega)] at hJ
    refine j_iconst hJ dX1_compare_19 ?_
    refine m_putcode hJ hin (by decide +kernel) dX1_compare_20 ?_
    refine j_aload_n hJ dX1_compare_23 rfl ?_
    refine m_code hJ hin (by decide +kernel) dX1_compare_24 ?_
    rw [zup_eq]
    refine j_if_le (tgt := 32) hJ (by decide) ⟨by omega, by omega⟩ dX1_compare_27 (fun h27 => absurd h27 (by decide)) (fun h27 => ?_)
    refine j_iconst hJ dX1_compare_30 ?_
    exact j_iret hJ (Nat.le_of_ble_eq_true rfl) (⟨rfl, zup_eq _ _ _ _, hI.code 1⟩) dX1_compare_31
  · refine j_iload_n hJ dX1_compare_8 rfl ?_
    refine j_callS hJ (kX1_isRegister l D _ ⟨by omega, by omega⟩) rfl gX1_compare_X1_isRegister rfl hsX1_isRegister rfl ⟨Nat.le_of_ble_eq_true rfl, Nat.le_of_ble_eq_true rfl⟩ (Nat.le_of_ble_eq_true rfl) (Nat.le_of_ble_eq_true rfl) dX1_compare_9 (fun _ h => False.elim h) (fun r9 hp9 => ?_)
    subst hp9
    refine j_if_eq (tgt := 19) hJ (by decide) ⟨by omega, by omega⟩ dX1_compare_12 (fun h12 => ?_) (fun h12 => ?_)
    · rw [if_neg (by omega)] at hJ
      refine j_iconst hJ dX1_compare_19 ?_
      refine m_putcode hJ hin (by decide +kernel) dX1_compare_20 ?_
      refine j_aload_n hJ dX1_compare_23 rfl ?_
      refine m_code hJ hin (by decide +kernel) dX1_compare_24 ?_
      rw [zup_eq]
      refine j_if_le (tgt := 32) hJ (by decide) ⟨by omega, by omega⟩ dX1_compare_27 (fun h27 => absurd h27 (by decide)) (fun h27 => ?_)
      refine j_iconst hJ dX1_compare_30 ?_
      exact j_iret hJ (Nat.le_of_ble_eq_true rfl) (⟨rfl, zup_eq _ _ _ _, hI.code 1⟩) dX1_compare_31
    · rw [if_pos ⟨⟨by omega, by omega⟩, ⟨by omega, by omega⟩⟩] at hJ
      have hc := hI.code 0
      have s1 := (hc.2 r.toNat (by omega)).2.1
      have s2 := (hc.2 i.toNat (by omega)).2.1
      have q1 := (hc.2 r.toNat (by omega)).1
      have q2 := (hc.2 i.toNat (by omega)).1
      refine j_iconst hJ dX1_compare_15 ?_
      refine j_goto (tgt := 20) hJ (by decide) dX1_compare_16 ?_
      refine m_putcode hJ hin (by decide +kernel) dX1_compare_20 ?_
      refine j_aload_n hJ dX1_compare_23 rfl ?_
      refine m_code hJ hin (by decide +kernel) dX1_compare_24 ?_
      rw [zup_eq]
      refine j_if_le (tgt := 32) hJ (by decide) ⟨by omega, by omega⟩ dX1_compare_27 (fun h27 => ?_) (fun h27 => absurd h27 (by decide))
      refine j_aload_n hJ dX1_compare_32 rfl ?_
      refine m_sign hJ hin (by decide +kernel) dX1_compare_33 ?_
      refine j_iload_n hJ dX1_compare_36 rfl ?_
      refine m_ald_sg hJ ⟨by omega, by omega⟩ dX1_compare_37 ?_
      refine j_aload_n hJ dX1_compare_38 rfl ?_
      refine m_sign hJ hin (by decide +kernel) dX1_compare_39 ?_
      refine j_iload_n hJ dX1_compare_42 rfl ?_
      refine m_ald_sg hJ ⟨by omega, by omega⟩ dX1_compare_43 ?_
      rw [s1, s2]
      refine j_icmp_eq (tgt := 68) hJ (by decide) ⟨by omega, by omega⟩ ⟨by omega, by omega⟩ dX1_compare_44 (fun h44 => ?_) (fun h44 => ?_)
      · refine j_aload_n hJ dX1_compare_68 rfl ?_
        refine m_sign hJ hin (by decide +kernel) dX1_compare_69 ?_
        refine j_iload_n hJ dX1_compare_72 rfl ?_
        refine m_ald_sg hJ ⟨by omega, by omega⟩ dX1_compare_73 ?_
        rw [s1]
        refine j_if_ge (tgt := 86) hJ (by decide) ⟨by omega, by omega⟩ dX1_compare_74 (fun h74 => ?_) (fun h74 => ?_)
        · refine j_aload_n hJ dX1_compare_86 rfl ?_
          refine j_iload_n hJ dX1_compare_87 rfl ?_
          refine j_iload_n hJ dX1_compare_88 rfl ?_
          refine j_callV hJ (kX1_order l D cI a _ _ _ ⟨by omega, by omega⟩ ⟨by omega, by omega⟩ (hc.1 r.toNat (by omega)) (hc.1 i.toNat (by omega))) rfl gX1_compare_X1_order rfl hdX1_order rfl ⟨Nat.le_of_ble_eq_true rfl, Nat.le_of_ble_eq_true rfl⟩ (Nat.le_of_ble_eq_true rfl) (Nat.le_of_ble_eq_true rfl) rfl rfl dX1_compare_89 (fun _ _ h => False.elim h) (fun r89 Z89 hp89 => ?_)
          obtain ⟨rfl, rfl⟩ := hp89
          rw [q1, q2]
          exact j_iret hJ (Nat.le_of_ble_eq_true rfl) (by first | exact ⟨by rw [show cz (g r.toNat) (g i.toNat) = cz ((g i.toNat).natAbs) ((g r.toNat).natAbs) by omega], zup_eq _ _ _ _, hc⟩ | exact ⟨by rw [show cz (g r.toNat) (g i.toNat) = cz ((g r.toNat).natAbs) ((g i.toNat).natAbs) by omega], zup_eq _ _ _ _, hc⟩) dX1_compare_92
        · refine j_aload_n hJ dX1_compare_77 rfl ?_
          refine j_iload_n hJ dX1_compare_78 rfl ?_
          refine j_iload_n hJ dX1_compare_79 rfl ?_
          refine j_callV hJ (kX1_order l D cI a _ _ _ ⟨by omega, by omega⟩ ⟨by omega, by omega⟩ (hc.1 i.toNat (by omega)) (hc.1 r.toNat (by omega))) rfl gX1_compare_X1_order rfl hdX1_order rfl ⟨Nat.le_of_ble_eq_true rfl, Nat.le_of_ble_eq_true rfl⟩ (Nat.le_of_ble_eq_true rfl) (Nat.le_of_ble_eq_true rfl) rfl rfl dX1_compare_80 (fun _ _ h => False.elim h) (fun r80 Z80 hp80 => ?_)
          obtain ⟨rfl, rfl⟩ := hp80
          rw [q1, q2]
          refine j_goto (tgt := 92) hJ (by decide) dX1_compare_83 ?_
          exact j_iret hJ (Nat.le_of_ble_eq_true rfl) (by first | exact ⟨by rw [show cz (g r.toNat) (g i.toNat) = cz ((g i.toNat).natAbs) ((g r.toNat).natAbs) by omega], zup_eq _ _ _ _, hc⟩ | exact ⟨by rw [show cz (g r.toNat) (g i.toNat) = cz ((g r.toNat).natAbs) ((g i.toNat).natAbs) by omega], zup_eq _ _ _ _, hc⟩) dX1_compare_92
      · refine j_aload_n hJ dX1_compare_47 rfl ?_
        refine m_sign hJ hin (by decide +kernel) dX1_compare_48 ?_
        refine j_iload_n hJ dX1_compare_51 rfl ?_
        refine m_ald_sg hJ ⟨by omega, by omega⟩ dX1_compare_52 ?_
        refine j_aload_n hJ dX1_compare_53 rfl ?_
        refine m_sign hJ hin (by decide +kernel) dX1_compare_54 ?_
        refine j_iload_n hJ dX1_compare_57 rfl ?_
        refine m_ald_sg hJ ⟨by omega, by omega⟩ dX1_compare_58 ?_
        rw [s1, s2]
        refine j_icmp_ge (tgt := 66) hJ (by decide) ⟨by omega, by omega⟩ ⟨by omega, by omega⟩ dX1_compare_59 (fun h59 => ?_) (fun h59 => ?_)
        · refine j_iconst hJ dX1_compare_66 ?_
          exact j_iret hJ (Nat.le_of_ble_eq_true rfl) (by first | exact ⟨by rw [show cz (g r.toNat) (g i.toNat) = -1 by omega], zup_eq _ _ _ _, hc⟩ | exact ⟨by rw [show cz (g r.toNat) (g i.toNat) = 1 by omega], zup_eq _ _ _ _, hc⟩) dX1_compare_67
        · refine j_iconst hJ dX1_compare_62 ?_
          refine j_goto (tgt := 67) hJ (by decide) dX1_compare_63 ?_
          exact j_iret hJ (Nat.le_of_ble_eq_true rfl) (by first | exact ⟨by rw [show cz (g r.toNat) (g i.toNat) = -1 by omega], zup_eq _ _ _ _, hc⟩ | exact ⟨by rw [show cz (g r.toNat) (g i.toNat) = 1 by omega], zup_eq _ _ _ _, hc⟩) dX1_compare_67
end M7
end
section
section M8
variable (l : Launch) (D : va_G) (cI : ClassId) (a : Nat → Nat) (Z : ZZ)
/-- four digits put into a cleared register -/
theorem set_MI {Z : ZZ} {g : Nat → Int} (h : MI Z g) {r : Nat} (hr : r < 12) {s d0 d1 d2 d3 v : Int} (hs : s = v.sign) (h0 : 0 ≤ d0 ∧ d0 < 65536) (h1 : 0 ≤ d1 ∧ d1 < 65536) (h2 : 0 ≤ d2 ∧ d2 < 65536) (h3 : 0 ≤ d3 ∧ d3 < 65536) (hv : d0 + d1 * 65536 + d2 * 4294967296 + d3 * 281474976710656 = (v.natAbs : Int)) :
    zup (zup (zup (zup (zup (mclr Z r) 1 r s) (r + 2) 0 d0) (r + 2) 1 d1) (r + 2) 2 d2) (r + 2) 3 d3 0 0 = Z 0 0 ∧ MI (zup (zup (zup (zup (zup (mclr Z r) 1 r s) (r + 2) 0 d0) (r + 2) 1 d1) (r + 2) 2 d2) (r + 2) 3 d3) (gset g r v) := by
  have hz : ∀ k, k < 2100 → mclr Z r (r + 2) k = 0 := fun k hk => mclr_row hk
  have hrow : zup (zup (zup (zup (zup (mclr Z r) 1 r s) (r + 2) 0 d0) (r + 2) 1 d1) (r + 2) 2 d2) (r + 2) 3 d3 (r + 2) = fset (fset (fset (fset (mclr Z r (r + 2)) 0 d0) 1 d1) 2 d2) 3 d3 := by
    rw [zup_fset, zup_fset, zup_fset, zup_fset, zup_off _ 1 _ _ (by omega)]
  have f0 : fset (fset (fset (fset (mclr Z r (r + 2)) 0 d0) 1 d1) 2 d2) 3 d3 0 = d0 := by rw [fset_ne (by omega), fset_ne (by omega), fset_ne (by omega), fset_eq]
  have f1 : fset (fset (fset (fset (mclr Z r (r + 2)) 0 d0) 1 d1) 2 d2) 3 d3 1 = d1 := by rw [fset_ne (by omega), fset_ne (by omega), fset_eq]
  have f2 : fset (fset (fset (fset (mclr Z r (r + 2)) 0 d0) 1 d1) 2 d2) 3 d3 2 = d2 := by rw [fset_ne (by omega), fset_eq]
  have f3 : fset (fset (fset (fset (mclr Z r (r + 2)) 0 d0) 1 d1) 2 d2) 3 d3 3 = d3 := fset_eq _ _ _
  have f4 : ∀ k, 4 ≤ k → k < 2100 → fset (fset (fset (fset (mclr Z r (r + 2)) 0 d0) 1 d1) 2 d2) 3 d3 k = 0 := fun k q1 q2 => by rw [fset_ne (by omega), fset_ne (by omega), fset_ne (by omega), fset_ne (by omega), hz k q2]
  refine ⟨?_, MI.reg2 h hr (fun j hj hn k hk => ?_) (fun i hi hn => ?_) ?_ ?_ ?_ ?_⟩
  · rw [zup_ne (by omega), zup_ne (by omega), zup_ne (by omega), zup_ne (by omega), zup_ne (by omega), mclr_off (by omega) (by omega)]
  · rw [zup_ne (by omega), zup_ne (by omega), zup_ne (by omega), zup_ne (by omega), zup_ne (by omega), mclr_off (by omega) (by omega)]
  · rw [zup_ne (by omega), zup_ne (by omega), zup_ne (by omega), zup_ne (by omega), zup_ne (by omega), mclr_sgo hn]
  · rw [hrow]
    intro k hk
    rcases Nat.lt_or_ge k 4 with q | q
    · rcases (show k = 0 ∨ k = 1 ∨ k = 2 ∨ k = 3 by omega) with rfl | rfl | rfl | rfl
      · rw [f0]; exact h0
      · rw [f1]; exact h1
      · rw [f2]; exact h2
      · rw [f3]; exact h3
    · rw [f4 k q hk]; exact ⟨by omega, by omega⟩
  · rw [hrow, vs4 f4, f0, f1, f2, f3, hv]
  · rw [zup_ne (by omega), zup_ne (by omega), zup_ne (by omega), zup_ne (by omega), zup_eq, hs]
  · exact small_LIM (by omega)
set_option maxRecDepth 20000 in
theorem kX1_set (g : Nat → Int) (hI : MI Z g) (r v : Int) (h0 : i32 r) (h1 : i64 v) : Ct l D (tM cI) (wM cI a) yX1_set wsX1_set 2 0 45 [.ref (a 0), .int (iZ r), .long (lZ v)] Z (fun w Z' => w = none ∧ Z' 0 0 = (oSet g r v).1 ∧ MI Z' (oSet g r v).2) nX := by
  refine Ct.of (cc := cX1_set) (maxL := 7) (ret := none) rfl (by decide) rfl (Nat.le_of_ble_eq_true rfl) (fun J hJ => ?_)
  have hin : ∀ w ∈ u_ws RX1 TX1 3, w ∈ wsX1_set := by decide +kernel
  unfold oSet at hJ
  have p0 := isR_spec r
  have c1 := sg_cases v
  have hfin : ∀ (s d0 d1 d2 d3 : Int), isRg r → s = v.sign → (0 ≤ d0 ∧ d0 < 65536) → (0 ≤ d1 ∧ d1 < 65536) → (0 ≤ d2 ∧ d2 < 65536) → (0 ≤ d3 ∧ d3 < 65536) → d0 + d1 * 65536 + d2 * 4294967296 + d3 * 281474976710656 = (v.natAbs : Int) → _ := fun s d0 d1 d2 d3 q0 q1 q2 q3 q4 q5 q6 => set_MI (hI.code 0) (r := r.toNat) (by omega) (s := s) (d0 := d0) (d1 := d1) (d2 := d2) (d3 := d3) (v := v) q1 q2 q3 q4 q5 q6
  rw [zup_eq] at hfin
  by_cases hv : v < 0
  · clear c1
    refine j_aload_n hJ dX1_set_0 rfl ?_
    refine j_iload_n hJ dX1_set_1 rfl ?_
    refine j_callS hJ (kX1_isRegister l D _ ⟨by omega, by omega⟩) rfl gX1_set_X1_isRegister rfl hsX1_isRegister rfl ⟨Nat.le_of_ble_eq_true rfl, Nat.le_of_ble_eq_true rfl⟩ (Nat.le_of_ble_eq_true rfl) (Nat.le_of_ble_eq_true rfl) dX1_set_2 (fun _ h => False.elim h) (fun r2 hp2 => ?_)
    subst hp2
    refine j_if_eq (tgt := 12) hJ (by decide) ⟨by omega, by omega⟩ dX1_set_5 (fun h5 => ?_) (fun h5 => ?_)
    · rw [if_neg (by omega)] at hJ
      refine j_iconst hJ dX1_set_12 ?_
      refine m_putcode hJ hin (by decide +kernel) dX1_set_13 ?_
      refine j_aload_n hJ dX1_set_16 rfl ?_
      refine m_code hJ hin (by decide +kernel) dX1_set_17 ?_
      rw [zup_eq]
      refine j_if_le (tgt := 24) hJ (by decide) ⟨by omega, by omega⟩ dX1_set_20 (fun h20 => absurd h20 (by decide)) (fun h20 => ?_)
      exact j_vret hJ (Nat.le_of_ble_eq_true rfl) (⟨rfl, zup_eq _ _ _ _, hI.code 1⟩) dX1_set_23
    · rw [if_pos ⟨by omega, by omega⟩] at hJ
      refine j_iconst hJ dX1_set_8 ?_
      refine j_goto (tgt := 13) hJ (by decide) dX1_set_9 ?_
      refine m_putcode hJ hin (by decide +kernel) dX1_set_13 ?_
      refine j_aload_n hJ dX1_set_16 rfl ?_
      refine m_code hJ hin (by decide +kernel) dX1_set_17 ?_
      rw [zup_eq]
      refine j_if_le (tgt := 24) hJ (by decide) ⟨by omega, by omega⟩ dX1_set_20 (fun h20 => ?_) (fun h20 => absurd h20 (by decide))
      refine j_aload_n hJ dX1_set_24 rfl ?_
      refine j_iload_n hJ dX1_set_25 rfl ?_
      refine j_callV hJ (kX1_clear l D cI a _ _ ⟨by omega, by omega⟩) rfl gX1_set_X1_clear rfl hdX1_clear rfl ⟨Nat.le_of_ble_eq_true rfl, Nat.le_of_ble_eq_true rfl⟩ (Nat.le_of_ble_eq_true rfl) (Nat.le_of_ble_eq_true rfl) rfl rfl dX1_set_26 (fun _ _ h => False.elim h) (fun r26 Z26 hp26 => ?_)
      obtain ⟨rfl, rfl⟩ := hp26
      refine j_aload_n hJ dX1_set_29 rfl ?_
      refine m_sign hJ hin (by decide +kernel) dX1_set_30 ?_
      refine j_iload_n hJ dX1_set_33 rfl ?_
      refine j_lload_n hJ dX1_set_34 rfl ?_
      refine j_lconst (z := 0) hJ (by decide) dX1_set_35 ?_
      refine j_lcmp_le (tgt := 44) hJ (by decide) ⟨by omega, by omega⟩ ⟨by omega, by omega⟩ dX1_set_36 dX1_set_37 (fun h36 => ?_) (fun h36 => ?_)
      · refine j_lload_n hJ dX1_set_44 rfl ?_
        refine j_lconst (z := 0) hJ (by decide) dX1_set_45 ?_
        refine j_lcmp_ge (tgt := 54) hJ (by decide) ⟨by omega, by omega⟩ ⟨by omega, by omega⟩ dX1_set_46 dX1_set_47 (fun h46 => ?_) (fun h46 => ?_)
        · omega
        · refine j_iconst hJ dX1_set_50 ?_
          refine j_goto (tgt := 55) hJ (by decide) dX1_set_51 ?_
          refine m_ast_sg hJ ⟨by omega, by omega⟩ dX1_set_55 ?_
          refine j_lload_n hJ dX1_set_56 rfl ?_
          refine j_lconst (z := 0) hJ (by decide) dX1_set_57 ?_
          refine j_lcmp_ge (tgt := 66) hJ (by decide) ⟨by omega, by omega⟩ ⟨by omega, by omega⟩ dX1_set_58 dX1_set_59 (fun h58 => ?_) (fun h58 => ?_)
          · omega
          · refine j_iconst hJ dX1_set_62 ?_
            refine j_goto (tgt := 67) hJ (by decide) dX1_set_63 ?_
            refine j_istore hJ (by decide) dX1_set_67 ?_
            refine j_iconst hJ dX1_set_69 ?_
            refine j_istore hJ (by decide) dX1_set_70 ?_
            refine j_re (lv' := [(0, _), (1, _), (2, _), (4, _), (5, _)]) hJ ?_ ⟨rfl, rfl, rfl, rfl, rfl, trivial⟩
            refine j_iload hJ dX1_set_72 rfl ?_
            refine j_iconst hJ dX1_set_74 ?_
            refine j_icmp_ge (tgt := 132) hJ (by decide) ⟨by omega, by omega⟩ ⟨by omega, by omega⟩ dX1_set_75 (fun h75 => absurd h75 (by decide)) (fun h75 => ?_)
            refine j_lload_n hJ dX1_set_78 rfl ?_
            refine j_bipush hJ (by decide) dX1_set_79 ?_
            refine j_iload hJ dX1_set_81 rfl ?_
            refine j_imul hJ dX1_set_83 ?_
            refine j_lshr (n := 0) hJ (by decide) ⟨by omega, by omega⟩ dX1_set_84 ?_
            refine j_l2i hJ dX1_set_85 ?_
            refine j_ldc (v := 65535) (z := 65535) hJ (by decide) (by decide +kernel) dX1_set_86 ?_
            refine j_iand hJ (iZ_low16 _) dX1_set_88 ?_
            refine j_istore hJ (by decide) dX1_set_89 ?_
            refine j_lload_n hJ dX1_set_91 rfl ?_
            refine j_lconst (z := 0) hJ (by decide) dX1_set_92 ?_
            refine j_lcmp_ge (tgt := 114) hJ (by decide) ⟨by omega, by omega⟩ ⟨by omega, by omega⟩ dX1_set_93 dX1_set_94 (fun h => absurd h (by omega)) (fun _ => ?_)
            refine j_ldc (v := 65535) (z := 65535) hJ (by decide) (by decide +kernel) dX1_set_97 ?_
            refine j_iload hJ dX1_set_99 rfl ?_
            refine j_isub hJ dX1_set_101 ?_
            refine j_iload hJ dX1_set_102 rfl ?_
            refine j_iadd hJ dX1_set_104 ?_
            refine j_istore hJ (by decide) dX1_set_105 ?_
            refine j_iload hJ dX1_set_107 rfl ?_
            refine j_bipush hJ (by decide) dX1_set_109 ?_
            refine j_ishr (n := 16) hJ (by decide) ⟨by omega, by omega⟩ dX1_set_111 ?_
            refine j_istore hJ (by decide) dX1_set_112 ?_
            refine j_aload_n hJ dX1_set_114 rfl ?_
            refine j_iload_n hJ dX1_set_115 rfl ?_
            refine j_iload hJ dX1_set_116 rfl ?_
            refine j_iload hJ dX1_set_118 rfl ?_
            refine j_ldc (v := 65535) (z := 65535) hJ (by decide) (by decide +kernel) dX1_set_120 ?_
            refine j_iand hJ (iZ_low16 _) dX1_set_122 ?_
            refine j_callV hJ (kX1_put l D cI a _ _ _ _ ⟨by omega, by omega⟩ ⟨by omega, by omega⟩) rfl gX1_set_X1_put rfl hdX1_put rfl ⟨Nat.le_of_ble_eq_true rfl, Nat.le_of_ble_eq_true rfl⟩ (Nat.le_of_ble_eq_true rfl) (Nat.le_of_ble_eq_true rfl) rfl rfl dX1_set_123 (fun _ _ h => False.elim h) (fun r123 Z123 hp123 => ?_)
            obtain ⟨rfl, rfl⟩ := hp123
            refine j_iinc hJ (by decide) dX1_set_126 rfl ?_
            refine j_re (lv' := [(0, _), (1, _), (2, _), (4, _), (5, _), (6, _)]) hJ ?_ ⟨rfl, rfl, rfl, rfl, rfl, rfl, trivial⟩
            refine j_goto (tgt := 72) hJ (by decide) dX1_set_129 ?_
            refine j_re (lv' := [(0, _), (1, _), (2, _), (4, _), (5, _), (6, _)]) hJ ?_ ⟨rfl, rfl, rfl, rfl, rfl, rfl, trivial⟩
            refine j_iload hJ dX1_set_72 rfl ?_
            refine j_iconst hJ dX1_set_74 ?_
            refine j_icmp_ge (tgt := 132) hJ (by decide) ⟨by omega, by omega⟩ ⟨by omega, by omega⟩ dX1_set_75 (fun h75 => absurd h75 (by decide)) (fun h75 => ?_)
            refine j_lload_n hJ dX1_set_78 rfl ?_
            refine j_bipush hJ (by decide) dX1_set_79 ?_
            refine j_iload hJ dX1_set_81 rfl ?_
            refine j_imul hJ dX1_set_83 ?_
            refine j_lshr (n := 16) hJ (by decide) ⟨by omega, by omega⟩ dX1_set_84 ?_
            refine j_l2i hJ dX1_set_85 ?_
            refine j_ldc (v := 65535) (z := 65535) hJ (by decide) (by decide +kernel) dX1_set_86 ?_
            refine j_iand hJ (iZ_low16 _) dX1_set_88 ?_
            refine j_istore hJ (by decide) dX1_set_89 ?_
            refine j_lload_n hJ dX1_set_91 rfl ?_
            refine j_lconst (z := 0) hJ (by decide) dX1_set_92 ?_
            refine j_lcmp_ge (tgt := 114) hJ (by decide) ⟨by omega, by omega⟩ ⟨by omega, by omega⟩ dX1_set_93 dX1_set_94 (fun h => absurd h (by omega)) (fun _ => ?_)
            refine j_ldc (v := 65535) (z := 65535) hJ (by decide) (by decide +kernel) dX1_set_97 ?_
            refine j_iload hJ dX1_set_99 rfl ?_
            refine j_isub hJ dX1_set_101 ?_
            refine j_iload hJ dX1_set_102 rfl ?_
            refine j_iadd hJ dX1_set_104 ?_
            refine j_istore hJ (by decide) dX1_set_105 ?_
            refine j_iload hJ dX1_set_107 rfl ?_
            refine j_bipush hJ (by decide) dX1_set_109 ?_
            refine j_ishr (n := 16) hJ (by decide) ⟨by omega, by omega⟩ dX1_set_111 ?_
            refine j_istore hJ (by decide) dX1_set_112 ?_
            refine j_aload_n hJ dX1_set_114 rfl ?_
            refine j_iload_n hJ dX1_set_115 rfl ?_
            refine j_iload hJ dX1_set_116 rfl ?_
            refine j_iload hJ dX1_set_118 rfl ?_
            refine j_ldc (v := 65535) (z := 65535) hJ (by decide) (by decide +kernel) dX1_set_120 ?_
            refine j_iand hJ (iZ_low16 _) dX1_set_122 ?_
            refine j_callV hJ (kX1_put l D cI a _ _ _ _ ⟨by omega, by omega⟩ ⟨by omega, by omega⟩) rfl gX1_set_X1_put rfl hdX1_put rfl ⟨Nat.le_of_ble_eq_true rfl, Nat.le_of_ble_eq_true rfl⟩ (Nat.le_of_ble_eq_true rfl) (Nat.le_of_ble_eq_true rfl) rfl rfl dX1_set_123 (fun _ _ h => False.elim h) (fun r123 Z123 hp123 => ?_)
            obtain ⟨rfl, rfl⟩ := hp123
            refine j_iinc hJ (by decide) dX1_set_126 rfl ?_
            refine j_re (lv' := [(0, _), (1, _), (2, _), (4, _), (5, _), (6, _)]) hJ ?_ ⟨rfl, rfl, rfl, rfl, rfl, rfl, trivial⟩
            refine j_goto (tgt := 72) hJ (by decide) dX1_set_129 ?_
            refine j_re (lv' := [(0, _), (1, _), (2, _), (4, _), (5, _), (6, _)]) hJ ?_ ⟨rfl, rfl, rfl, rfl, rfl, rfl, trivial⟩
            refine j_iload hJ dX1_set_72 rfl ?_
            refine j_iconst hJ dX1_set_74 ?_
            refine j_icmp_ge (tgt := 132) hJ (by decide) ⟨by omega, by omega⟩ ⟨by omega, by omega⟩ dX1_set_75 (fun h75 => absurd h75 (by decide)) (fun h75 => ?_)
            refine j_lload_n hJ dX1_set_78 rfl ?_
            refine j_bipush hJ (by decide) dX1_set_79 ?_
            refine j_iload hJ dX1_set_81 rfl ?_
            refine j_imul hJ dX1_set_83 ?_
            refine j_lshr (n := 32) hJ (by decide) ⟨by omega, by omega⟩ dX1_set_84 ?_
            refine j_l2i hJ dX1_set_85 ?_
            refine j_ldc (v := 65535) (z := 65535) hJ (by decide) (by decide +kernel) dX1_set_86 ?_
            refine j_iand hJ (iZ_low16 _) dX1_set_88 ?_
            refine j_istore hJ (by decide) dX1_set_89 ?_
            refine j_lload_n hJ dX1_set_91 rfl ?_
            refine j_lconst (z := 0) hJ (by decide) dX1_set_92 ?_
            refine j_lcmp_ge (tgt := 114) hJ (by decide) ⟨by omega, by omega⟩ ⟨by omega, by omega⟩ dX1_set_93 dX1_set_94 (fun h => absurd h (by omega)) (fun _ => ?_)
            refine j_ldc (v := 65535) (z := 65535) hJ (by decide) (by decide +kernel) dX1_set_97 ?_
            refine j_iload hJ dX1_set_99 rfl ?_
            refine j_isub hJ dX1_set_101 ?_
            refine j_iload hJ dX1_set_102 rfl ?_
            refine j_iadd hJ dX1_set_104 ?_
            refine j_istore hJ (by decide) dX1_set_105 ?_
            refine j_iload hJ dX1_set_107 rfl ?_
            refine j_bipush hJ (by decide) dX1_set_109 ?_
            refine j_ishr (n := 16) hJ (by decide) ⟨by omega, by omega⟩ dX1_set_111 ?_
            refine j_istore hJ (by decide) dX1_set_112 ?_
            refine j_aload_n hJ dX1_set_114 rfl ?_
            refine j_iload_n hJ dX1_set_115 rfl ?_
            refine j_iload hJ dX1_set_116 rfl ?_
            refine j_iload hJ dX1_set_118 rfl ?_
            refine j_ldc (v := 65535) (z := 65535) hJ (by decide) (by decide +kernel) dX1_set_120 ?_
            refine j_iand hJ (iZ_low16 _) dX1_set_122 ?_
            refine j_callV hJ (kX1_put l D cI a _ _ _ _ ⟨by omega, by omega⟩ ⟨by omega, by omega⟩) rfl gX1_set_X1_put rfl hdX1_put rfl ⟨Nat.le_of_ble_eq_true rfl, Nat.le_of_ble_eq_true rfl⟩ (Nat.le_of_ble_eq_true rfl) (Nat.le_of_ble_eq_true rfl) rfl rfl dX1_set_123 (fun _ _ h => False.elim h) (fun r123 Z123 hp123 => ?_)
            obtain ⟨rfl, rfl⟩ := hp123
            refine j_iinc hJ (by decide) dX1_set_126 rfl ?_
            refine j_re (lv' := [(0, _), (1, _), (2, _), (4, _), (5, _), (6, _)]) hJ ?_ ⟨rfl, rfl, rfl, rfl, rfl, rfl, trivial⟩
            refine j_goto (tgt := 72) hJ (by decide) dX1_set_129 ?_
            refine j_re (lv' := [(0, _), (1, _), (2, _), (4, _), (5, _), (6, _)]) hJ ?_ ⟨rfl, rfl, rfl, rfl, rfl, rfl, trivial⟩
            refine j_iload hJ dX1_set_72 rfl ?_
            refine j_iconst hJ dX1_set_74 ?_
            refine j_icmp_ge (tgt := 132) hJ (by decide) ⟨by omega, by omega⟩ ⟨by omega, by omega⟩ dX1_set_75 (fun h75 => absurd h75 (by decide)) (fun h75 => ?_)
            refine j_lload_n hJ dX1_set_78 rfl ?_
            refine j_bipush hJ (by decide) dX1_set_79 ?_
            refine j_iload hJ dX1_set_81 rfl ?_
            refine j_imul hJ dX1_set_83 ?_
            refine j_lshr (n := 48) hJ (by decide) ⟨by omega, by omega⟩ dX1_set_84 ?_
            refine j_l2i hJ dX1_set_85 ?_
            refine j_ldc (v := 65535) (z := 65535) hJ (by decide) (by decide +kernel) dX1_set_86 ?_
            refine j_iand hJ (iZ_low16 _) dX1_set_88 ?_
            refine j_istore hJ (by decide) dX1_set_89 ?_
            refine j_lload_n hJ dX1_set_91 rfl ?_
            refine j_lconst (z := 0) hJ (by decide) dX1_set_92 ?_
            refine j_lcmp_ge (tgt := 114) hJ (by decide) ⟨by omega, by omega⟩ ⟨by omega, by omega⟩ dX1_set_93 dX1_set_94 (fun h => absurd h (by omega)) (fun _ => ?_)
            refine j_ldc (v := 65535) (z := 65535) hJ (by decide) (by decide +kernel) dX1_set_97 ?_
            refine j_iload hJ dX1_set_99 rfl ?_
            refine j_isub hJ dX1_set_101 ?_
            refine j_iload hJ dX1_set_102 rfl ?_
            refine j_iadd hJ dX1_set_104 ?_
            refine j_istore hJ (by decide) dX1_set_105 ?_
            refine j_iload hJ dX1_set_107 rfl ?_
            refine j_bipush hJ (by decide) dX1_set_109 ?_
            refine j_ishr (n := 16) hJ (by decide) ⟨by omega, by omega⟩ dX1_set_111 ?_
            refine j_istore hJ (by decide) dX1_set_112 ?_
            refine j_aload_n hJ dX1_set_114 rfl ?_
            refine j_iload_n hJ dX1_set_115 rfl ?_
            refine j_iload hJ dX1_set_116 rfl ?_
            refine j_iload hJ dX1_set_118 rfl ?_
            refine j_ldc (v := 65535) (z := 65535) hJ (by decide) (by decide +kernel) dX1_set_120 ?_
            refine j_iand hJ (iZ_low16 _) dX1_set_122 ?_
            refine j_callV hJ (kX1_put l D cI a _ _ _ _ ⟨by omega, by omega⟩ ⟨by omega, by omega⟩) rfl gX1_set_X1_put rfl hdX1_put rfl ⟨Nat.le_of_ble_eq_true rfl, Nat.le_of_ble_eq_true rfl⟩ (Nat.le_of_ble_eq_true rfl) (Nat.le_of_ble_eq_true rfl) rfl rfl dX1_set_123 (fun _ _ h => False.elim h) (fun r123 Z123 hp123 => ?_)
            obtain ⟨rfl, rfl⟩ := hp123
            refine j_iinc hJ (by decide) dX1_set_126 rfl ?_
            refine j_re (lv' := [(0, _), (1, _), (2, _), (4, _), (5, _), (6, _)]) hJ ?_ ⟨rfl, rfl, rfl, rfl, rfl, rfl, trivial⟩
            refine j_goto (tgt := 72) hJ (by decide) dX1_set_129 ?_
            refine j_re (lv' := [(0, _), (1, _), (2, _), (4, _), (5, _), (6, _)]) hJ ?_ ⟨rfl, rfl, rfl, rfl, rfl, rfl, trivial⟩
            refine j_iload hJ dX1_set_72 rfl ?_
            refine j_iconst hJ dX1_set_74 ?_
            refine j_icmp_ge (tgt := 132) hJ (by decide) ⟨by omega, by omega⟩ ⟨by omega, by omega⟩ dX1_set_75 (fun h75 => ?_) (fun h75 => absurd h75 (by decide))
            exact j_vret hJ (Nat.le_of_ble_eq_true rfl) (⟨rfl, hfin _ _ _ _ _ ⟨by omega, by omega⟩ (by have := sg_cases v; omega) ⟨by omega, by omega⟩ ⟨by omega, by omega⟩ ⟨by omega, by omega⟩ ⟨by omega, by omega⟩ (by have := sg_cases v; omega)⟩) dX1_set_132
      · omega
  · clear c1
    refine j_aload_n hJ dX1_set_0 rfl ?_
    refine j_iload_n hJ dX1_set_1 rfl ?_
    refine j_callS hJ (kX1_isRegister l D _ ⟨by omega, by omega⟩) rfl gX1_set_X1_isRegister rfl hsX1_isRegister rfl ⟨Nat.le_of_ble_eq_true rfl, Nat.le_of_ble_eq_true rfl⟩ (Nat.le_of_ble_eq_true rfl) (Nat.le_of_ble_eq_true rfl) dX1_set_2 (fun _ h => False.elim h) (fun r2 hp2 => ?_)
    subst hp2
    refine j_if_eq (tgt := 12) hJ (by decide) ⟨by omega, by omega⟩ dX1_set_5 (fun h5 => ?_) (fun h5 => ?_)
    · rw [if_neg (by omega)] at hJ
      refine j_iconst hJ dX1_set_12 ?_
      refine m_putcode hJ hin (by decide +kernel) dX1_set_13 ?_
      refine j_aload_n hJ dX1_set_16 rfl ?_
      refine m_code hJ hin (by decide +kernel) dX1_set_17 ?_
      rw [zup_eq]
      refine j_if_le (tgt := 24) hJ (by decide) ⟨by omega, by omega⟩ dX1_set_20 (fun h20 => absurd h20 (by decide)) (fun h20 => ?_)
      exact j_vret hJ (Nat.le_of_ble_eq_true rfl) (⟨rfl, zup_eq _ _ _ _, hI.code 1⟩) dX1_set_23
    · rw [if_pos ⟨by omega, by omega⟩] at hJ
      refine j_iconst hJ dX1_set_8 ?_
      refine j_goto (tgt := 13) hJ (by decide) dX1_set_9 ?_
      refine m_putcode hJ hin (by decide +kernel) dX1_set_13 ?_
      refine j_aload_n hJ dX1_set_16 rfl ?_
      refine m_code hJ hin (by decide +kernel) dX1_set_17 ?_
      rw [zup_eq]
      refine j_if_le (tgt := 24) hJ (by decide) ⟨by omega, by omega⟩ dX1_set_20 (fun h20 => ?_) (fun h20 => absurd h20 (by decide))
      refine j_aload_n hJ dX1_set_24 rfl ?_
      refine j_iload_n hJ dX1_set_25 rfl ?_
      refine j_callV hJ (kX1_clear l D cI a _ _ ⟨by omega, by omega⟩) rfl gX1_set_X1_clear rfl hdX1_clear rfl ⟨Nat.le_of_ble_eq_true rfl, Nat.le_of_ble_eq_true rfl⟩ (Nat.le_of_ble_eq_true rfl) (Nat.le_of_ble_eq_true rfl) rfl rfl dX1_set_26 (fun _ _ h => False.elim h) (fun r26 Z26 hp26 => ?_)
      obtain ⟨rfl, rfl⟩ := hp26
      refine j_aload_n hJ dX1_set_29 rfl ?_
      refine m_sign hJ hin (by decide +kernel) dX1_set_30 ?_
      refine j_iload_n hJ dX1_set_33 rfl ?_
      refine j_lload_n hJ dX1_set_34 rfl ?_
      refine j_lconst (z := 0) hJ (by decide) dX1_set_35 ?_
      refine j_lcmp_le (tgt := 44) hJ (by decide) ⟨by omega, by omega⟩ ⟨by omega, by omega⟩ dX1_set_36 dX1_set_37 (fun h36 => ?_) (fun h36 => ?_)
      · refine j_lload_n hJ dX1_set_44 rfl ?_
        refine j_lconst (z := 0) hJ (by decide) dX1_set_45 ?_
        refine j_lcmp_ge (tgt := 54) hJ (by decide) ⟨by omega, by omega⟩ ⟨by omega, by omega⟩ dX1_set_46 dX1_set_47 (fun h46 => ?_) (fun h46 => ?_)
        · refine j_iconst hJ dX1_set_54 ?_
          refine m_ast_sg hJ ⟨by omega, by omega⟩ dX1_set_55 ?_
          refine j_lload_n hJ dX1_set_56 rfl ?_
          refine j_lconst (z := 0) hJ (by decide) dX1_set_57 ?_
          refine j_lcmp_ge (tgt := 66) hJ (by decide) ⟨by omega, by omega⟩ ⟨by omega, by omega⟩ dX1_set_58 dX1_set_59 (fun h58 => ?_) (fun h58 => ?_)
          · refine j_iconst hJ dX1_set_66 ?_
            refine j_istore hJ (by decide) dX1_set_67 ?_
            refine j_iconst hJ dX1_set_69 ?_
            refine j_istore hJ (by decide) dX1_set_70 ?_
            refine j_re (lv' := [(0, _), (1, _), (2, _), (4, _), (5, _)]) hJ ?_ ⟨rfl, rfl, rfl, rfl, rfl, trivial⟩
            refine j_iload hJ dX1_set_72 rfl ?_
            refine j_iconst hJ dX1_set_74 ?_
            refine j_icmp_ge (tgt := 132) hJ (by decide) ⟨by omega, by omega⟩ ⟨by omega, by omega⟩ dX1_set_75 (fun h75 => absurd h75 (by decide)) (fun h75 => ?_)
            refine j_lload_n hJ dX1_set_78 rfl ?_
            refine j_bipush hJ (by decide) dX1_set_79 ?_
            refine j_iload hJ dX1_set_81 rfl ?_
            refine j_imul hJ dX1_set_83 ?_
            refine j_lshr (n := 0) hJ (by decide) ⟨by omega, by omega⟩ dX1_set_84 ?_
            refine j_l2i hJ dX1_set_85 ?_
            refine j_ldc (v := 65535) (z := 65535) hJ (by decide) (by decide +kernel) dX1_set_86 ?_
            refine j_iand hJ (iZ_low16 _) dX1_set_88 ?_
            refine j_istore hJ (by decide) dX1_set_89 ?_
            refine j_lload_n hJ dX1_set_91 rfl ?_
            refine j_lconst (z := 0) hJ (by decide) dX1_set_92 ?_
            refine j_lcmp_ge (tgt := 114) hJ (by decide) ⟨by omega, by omega⟩ ⟨by omega, by omega⟩ dX1_set_93 dX1_set_94 (fun h93 => ?_) (fun h93 => ?_)
            · refine j_aload_n hJ dX1_set_114 rfl ?_
              refine j_iload_n hJ dX1_set_115 rfl ?_
              refine j_iload hJ dX1_set_116 rfl ?_
              refine j_iload hJ dX1_set_118 rfl ?_
              refine j_ldc (v := 65535) (z := 65535) hJ (by decide) (by decide +kernel) dX1_set_120 ?_
              refine j_iand hJ (iZ_low16 _) dX1_set_122 ?_
              refine j_callV hJ (kX1_put l D cI a _ _ _ _ ⟨by omega, by omega⟩ ⟨by omega, by omega⟩) rfl gX1_set_X1_put rfl hdX1_put rfl ⟨Nat.le_of_ble_eq_true rfl, Nat.le_of_ble_eq_true rfl⟩ (Nat.le_of_ble_eq_true rfl) (Nat.le_of_ble_eq_true rfl) rfl rfl dX1_set_123 (fun _ _ h => False.elim h) (fun r123 Z123 hp123 => ?_)
              obtain ⟨rfl, rfl⟩ := hp123
              refine j_iinc hJ (by decide) dX1_set_126 rfl ?_
              refine j_goto (tgt := 72) hJ (by decide) dX1_set_129 ?_
              refine j_re (lv' := [(0, _), (1, _), (2, _), (4, _), (5, _), (6, _)]) hJ ?_ ⟨rfl, rfl, rfl, rfl, rfl, rfl, trivial⟩
              refine j_iload hJ dX1_set_72 rfl ?_
              refine j_iconst hJ dX1_set_74 ?_
              refine j_icmp_ge (tgt := 132) hJ (by decide) ⟨by omega, by omega⟩ ⟨by omega, by omega⟩ dX1_set_75 (fun h75 => absurd h75 (by decide)) (fun h75 => ?_)
              refine j_lload_n hJ dX1_set_78 rfl ?_
              refine j_bipush hJ (by decide) dX1_set_79 ?_
              refine j_iload hJ dX1_set_81 rfl ?_
              refine j_imul hJ dX1_set_83 ?_
              refine j_lshr (n := 16) hJ (by decide) ⟨by omega, by omega⟩ dX1_set_84 ?_
              refine j_l2i hJ dX1_set_85 ?_
              refine j_ldc (v := 65535) (z := 65535) hJ (by decide) (by decide +kernel) dX1_set_86 ?_
              refine j_iand hJ (iZ_low16 _) dX1_set_88 ?_
              refine j_istore hJ (by decide) dX1_set_89 ?_
              refine j_lload_n hJ dX1_set_91 rfl ?_
              refine j_lconst (z := 0) hJ (by decide) dX1_set_92 ?_
              refine j_lcmp_ge (tgt := 114) hJ (by decide) ⟨by omega, by omega⟩ ⟨by omega, by omega⟩ dX1_set_93 dX1_set_94 (fun h93 => ?_) (fun h93 => ?_)
              · refine j_aload_n hJ dX1_set_114 rfl ?_
                refine j_iload_n hJ dX1_set_115 rfl ?_
                refine j_iload hJ dX1_set_116 rfl ?_
                refine j_iload hJ dX1_set_118 rfl ?_
                refine j_ldc (v := 65535) (z := 65535) hJ (by decide) (by decide +kernel) dX1_set_120 ?_
                refine j_iand hJ (iZ_low16 _) dX1_set_122 ?_
                refine j_callV hJ (kX1_put l D cI a _ _ _ _ ⟨by omega, by omega⟩ ⟨by omega, by omega⟩) rfl gX1_set_X1_put rfl hdX1_put rfl ⟨Nat.le_of_ble_eq_true rfl, Nat.le_of_ble_eq_true rfl⟩ (Nat.le_of_ble_eq_true rfl) (Nat.le_of_ble_eq_true rfl) rfl rfl dX1_set_123 (fun _ _ h => False.elim h) (fun r123 Z123 hp123 => ?_)
                obtain ⟨rfl, rfl⟩ := hp123
                refine j_iinc hJ (by decide) dX1_set_126 rfl ?_
                refine j_goto (tgt := 72) hJ (by decide) dX1_set_129 ?_
                refine j_re (lv' := [(0, _), (1, _), (2, _), (4, _), (5, _), (6, _)]) hJ ?_ ⟨rfl, rfl, rfl, rfl, rfl, rfl, trivial⟩
                refine j_iload hJ dX1_set_72 rfl ?_
                refine j_iconst hJ dX1_set_74 ?_
                refine j_icmp_ge (tgt := 132) hJ (by decide) ⟨by omega, by omega⟩ ⟨by omega, by omega⟩ dX1_set_75 (fun h75 => absurd h75 (by decide)) (fun h75 => ?_)
                refine j_lload_n hJ dX1_set_78 rfl ?_
                refine j_bipush hJ (by decide) dX1_set_79 ?_
                refine j_iload hJ dX1_set_81 rfl ?_
                refine j_imul hJ dX1_set_83 ?_
                refine j_lshr (n := 32) hJ (by decide) ⟨by omega, by omega⟩ dX1_set_84 ?_
                refine j_l2i hJ dX1_set_85 ?_
                refine j_ldc (v := 65535) (z := 65535) hJ (by decide) (by decide +kernel) dX1_set_86 ?_
                refine j_iand hJ (iZ_low16 _) dX1_set_88 ?_
                refine j_istore hJ (by decide) dX1_set_89 ?_
                refine j_lload_n hJ dX1_set_91 rfl ?_
                refine j_lconst (z := 0) hJ (by decide) dX1_set_92 ?_
                refine j_lcmp_ge (tgt := 114) hJ (by decide) ⟨by omega, by omega⟩ ⟨by omega, by omega⟩ dX1_set_93 dX1_set_94 (fun h93 => ?_) (fun h93 => ?_)
                · refine j_aload_n hJ dX1_set_114 rfl ?_
                  refine j_iload_n hJ dX1_set_115 rfl ?_
                  refine j_iload hJ dX1_set_116 rfl ?_
                  refine j_iload hJ dX1_set_118 rfl ?_
                  refine j_ldc (v := 65535) (z := 65535) hJ (by decide) (by decide +kernel) dX1_set_120 ?_
                  refine j_iand hJ (iZ_low16 _) dX1_set_122 ?_
                  refine j_callV hJ (kX1_put l D cI a _ _ _ _ ⟨by omega, by omega⟩ ⟨by omega, by omega⟩) rfl gX1_set_X1_put rfl hdX1_put rfl ⟨Nat.le_of_ble_eq_true rfl, Nat.le_of_ble_eq_true rfl⟩ (Nat.le_of_ble_eq_true rfl) (Nat.le_of_ble_eq_true rfl) rfl rfl dX1_set_123 (fun _ _ h => False.elim h) (fun r123 Z123 hp123 => ?_)
                  obtain ⟨rfl, rfl⟩ := hp123
                  refine j_iinc hJ (by decide) dX1_set_126 rfl ?_
                  refine j_goto (tgt := 72) hJ (by decide) dX1_set_129 ?_
                  refine j_re (lv' := [(0, _), (1, _), (2, _), (4, _), (5, _), (6, _)]) hJ ?_ ⟨rfl, rfl, rfl, rfl, rfl, rfl, trivial⟩
                  refine j_iload hJ dX1_set_72 rfl ?_
                  refine j_iconst hJ dX1_set_74 ?_
                  refine j_icmp_ge (tgt := 132) hJ (by decide) ⟨by omega, by omega⟩ ⟨by omega, by omega⟩ dX1_set_75 (fun h75 => absurd h75 (by decide)) (fun h75 => ?_)
                  refine j_lload_n hJ dX1_set_78 rfl ?_
                  refine j_bipush hJ (by decide) dX1_set_79 ?_
                  refine j_iload hJ dX1_set_81 rfl ?_
                  refine j_imul hJ dX1_set_83 ?_
                  refine j_lshr (n := 48) hJ (by decide) ⟨by omega, by omega⟩ dX1_set_84 ?_
                  refine j_l2i hJ dX1_set_85 ?_
                  refine j_ldc (v := 65535) (z := 65535) hJ (by decide) (by decide +kernel) dX1_set_86 ?_
                  refine j_iand hJ (iZ_low16 _) dX1_set_88 ?_
                  refine j_istore hJ (by decide) dX1_set_89 ?_
                  refine j_lload_n hJ dX1_set_91 rfl ?_
                  refine j_lconst (z := 0) hJ (by decide) dX1_set_92 ?_
                  refine j_lcmp_ge (tgt := 114) hJ (by decide) ⟨by omega, by omega⟩ ⟨by omega, by omega⟩ dX1_set_93 dX1_set_94 (fun h93 => ?_) (fun h93 => ?_)
                  · refine j_aload_n hJ dX1_set_114 rfl ?_
                    refine j_iload_n hJ dX1_set_115 rfl ?_
                    refine j_iload hJ dX1_set_116 rfl ?_
                    refine j_iload hJ dX1_set_118 rfl ?_
                    refine j_ldc (v := 65535) (z := 65535) hJ (by decide) (by decide +kernel) dX1_set_120 ?_
                    refine j_iand hJ (iZ_low16 _) dX1_set_122 ?_
                    refine j_callV hJ (kX1_put l D cI a _ _ _ _ ⟨by omega, by omega⟩ ⟨by omega, by omega⟩) rfl gX1_set_X1_put rfl hdX1_put rfl ⟨Nat.le_of_ble_eq_true rfl, Nat.le_of_ble_eq_true rfl⟩ (Nat.le_of_ble_eq_true rfl) (Nat.le_of_ble_eq_true rfl) rfl rfl dX1_set_123 (fun _ _ h => False.elim h) (fun r123 Z123 hp123 => ?_)
                    obtain ⟨rfl, rfl⟩ := hp123
                    refine j_iinc hJ (by decide) dX1_set_126 rfl ?_
                    refine j_goto (tgt := 72) hJ (by decide) dX1_set_129 ?_
                    refine j_re (lv' := [(0, _), (1, _), (2, _), (4, _), (5, _), (6, _)]) hJ ?_ ⟨rfl, rfl, rfl, rfl, rfl, rfl, trivial⟩
                    refine j_iload hJ dX1_set_72 rfl ?_
                    refine j_iconst hJ dX1_set_74 ?_
                    refine j_icmp_ge (tgt := 132) hJ (by decide) ⟨by omega, by omega⟩ ⟨by omega, by omega⟩ dX1_set_75 (fun h75 => ?_) (fun h75 => absurd h75 (by decide))
                    exact j_vret hJ (Nat.le_of_ble_eq_true rfl) (⟨rfl, hfin _ _ _ _ _ ⟨by omega, by omega⟩ (by have := sg_cases v; omega) ⟨by omega, by omega⟩ ⟨by omega, by omega⟩ ⟨by omega, by omega⟩ ⟨by omega, by omega⟩ (by have := sg_cases v; omega)⟩) dX1_set_132
                  · omega
                · omega
              · omega
            · omega
          · omega
        · omega
      · refine j_iconst hJ dX1_set_40 ?_
        refine j_goto (tgt := 55) hJ (by decide) dX1_set_41 ?_
        refine m_ast_sg hJ ⟨by omega, by omega⟩ dX1_set_55 ?_
        refine j_lload_n hJ dX1_set_56 rfl ?_
        refine j_lconst (z := 0) hJ (by decide) dX1_set_57 ?_
        refine j_lcmp_ge (tgt := 66) hJ (by decide) ⟨by omega, by omega⟩ ⟨by omega, by omega⟩ dX1_set_58 dX1_set_59 (fun h58 => ?_) (fun h58 => ?_)
        · refine j_iconst hJ dX1_set_66 ?_
          refine j_istore hJ (by decide) dX1_set_67 ?_
          refine j_iconst hJ dX1_set_69 ?_
          refine j_istore hJ (by decide) dX1_set_70 ?_
          refine j_re (lv' := [(0, _), (1, _), (2, _), (4, _), (5, _)]) hJ ?_ ⟨rfl, rfl, rfl, rfl, rfl, trivial⟩
          refine j_iload hJ dX1_set_72 rfl ?_
          refine j_iconst hJ dX1_set_74 ?_
          refine j_icmp_ge (tgt := 132) hJ (by decide) ⟨by omega, by omega⟩ ⟨by omega, by omega⟩ dX1_set_75 (fun h75 => absurd h75 (by decide)) (fun h75 => ?_)
          refine j_lload_n hJ dX1_set_78 rfl ?_
          refine j_bipush hJ (by decide) dX1_set_79 ?_
          refine j_iload hJ dX1_set_81 rfl ?_
          refine j_imul hJ dX1_set_83 ?_
          refine j_lshr (n := 0) hJ (by decide) ⟨by omega, by omega⟩ dX1_set_84 ?_
          refine j_l2i hJ dX1_set_85 ?_
          refine j_ldc (v := 65535) (z := 65535) hJ (by decide) (by decide +kernel) dX1_set_86 ?_
          refine j_iand hJ (iZ_low16 _) dX1_set_88 ?_
          refine j_istore hJ (by decide) dX1_set_89 ?_
          refine j_lload_n hJ dX1_set_91 rfl ?_
          refine j_lconst (z := 0) hJ (by decide) dX1_set_92 ?_
          refine j_lcmp_ge (tgt := 114) hJ (by decide) ⟨by omega, by omega⟩ ⟨by omega, by omega⟩ dX1_set_93 dX1_set_94 (fun h93 => ?_) (fun h93 => ?_)
          · refine j_aload_n hJ dX1_set_114 rfl ?_
            refine j_iload_n hJ dX1_set_115 rfl ?_
            refine j_iload hJ dX1_set_116 rfl ?_
            refine j_iload hJ dX1_set_118 rfl ?_
            refine j_ldc (v := 65535) (z := 65535) hJ (by decide) (by decide +kernel) dX1_set_120 ?_
            refine j_iand hJ (iZ_low16 _) dX1_set_122 ?_
            refine j_callV hJ (kX1_put l D cI a _ _ _ _ ⟨by omega, by omega⟩ ⟨by omega, by omega⟩) rfl gX1_set_X1_put rfl hdX1_put rfl ⟨Nat.le_of_ble_eq_true rfl, Nat.le_of_ble_eq_true rfl⟩ (Nat.le_of_ble_eq_true rfl) (Nat.le_of_ble_eq_true rfl) rfl rfl dX1_set_123 (fun _ _ h => False.elim h) (fun r123 Z123 hp123 => ?_)
            obtain ⟨rfl, rfl⟩ := hp123
            refine j_iinc hJ (by decide) dX1_set_126 rfl ?_
            refine j_goto (tgt := 72) hJ (by decide) dX1_set_129 ?_
            refine j_re (lv' := [(0, _), (1, _), (2, _), (4, _), (5, _), (6, _)]) hJ ?_ ⟨rfl, rfl, rfl, rfl, rfl, rfl, trivial⟩
            refine j_iload hJ dX1_set_72 rfl ?_
            refine j_iconst hJ dX1_set_74 ?_
            refine j_icmp_ge (tgt := 132) hJ (by decide) ⟨by omega, by omega⟩ ⟨by omega, by omega⟩ dX1_set_75 (fun h75 => absurd h75 (by decide)) (fun h75 => ?_)
            refine j_lload_n hJ dX1_set_78 rfl ?_
            refine j_bipush hJ (by decide) dX1_set_79 ?_
            refine j_iload hJ dX1_set_81 rfl ?_
            refine j_imul hJ dX1_set_83 ?_
            refine j_lshr (n := 16) hJ (by decide) ⟨by omega, by omega⟩ dX1_set_84 ?_
            refine j_l2i hJ dX1_set_85 ?_
            refine j_ldc (v := 65535) (z := 65535) hJ (by decide) (by decide +kernel) dX1_set_86 ?_
            refine j_iand hJ (iZ_low16 _) dX1_set_88 ?_
            refine j_istore hJ (by decide) dX1_set_89 ?_
            refine j_lload_n hJ dX1_set_91 rfl ?_
            refine j_lconst (z := 0) hJ (by decide) dX1_set_92 ?_
            refine j_lcmp_ge (tgt := 114) hJ (by decide) ⟨by omega, by omega⟩ ⟨by omega, by omega⟩ dX1_set_93 dX1_set_94 (fun h93 => ?_) (fun h93 => ?_)
            · refine j_aload_n hJ dX1_set_114 rfl ?_
              refine j_iload_n hJ dX1_set_115 rfl ?_
              refine j_iload hJ dX1_set_116 rfl ?_
              refine j_iload hJ dX1_set_118 rfl ?_
              refine j_ldc (v := 65535) (z := 65535) hJ (by decide) (by decide +kernel) dX1_set_120 ?_
              refine j_iand hJ (iZ_low16 _) dX1_set_122 ?_
              refine j_callV hJ (kX1_put l D cI a _ _ _ _ ⟨by omega, by omega⟩ ⟨by omega, by omega⟩) rfl gX1_set_X1_put rfl hdX1_put rfl ⟨Nat.le_of_ble_eq_true rfl, Nat.le_of_ble_eq_true rfl⟩ (Nat.le_of_ble_eq_true rfl) (Nat.le_of_ble_eq_true rfl) rfl rfl dX1_set_123 (fun _ _ h => False.elim h) (fun r123 Z123 hp123 => ?_)
              obtain ⟨rfl, rfl⟩ := hp123
              refine j_iinc hJ (by decide) dX1_set_126 rfl ?_
              refine j_goto (tgt := 72) hJ (by decide) dX1_set_129 ?_
              refine j_re (lv' := [(0, _), (1, _), (2, _), (4, _), (5, _), (6, _)]) hJ ?_ ⟨rfl, rfl, rfl, rfl, rfl, rfl, trivial⟩
              refine j_iload hJ dX1_set_72 rfl ?_
              refine j_iconst hJ dX1_set_74 ?_
              refine j_icmp_ge (tgt := 132) hJ (by decide) ⟨by omega, by omega⟩ ⟨by omega, by omega⟩ dX1_set_75 (fun h75 => absurd h75 (by decide)) (fun h75 => ?_)
              refine j_lload_n hJ dX1_set_78 rfl ?_
              refine j_bipush hJ (by decide) dX1_set_79 ?_
              refine j_iload hJ dX1_set_81 rfl ?_
              refine j_imul hJ dX1_set_83 ?_
              refine j_lshr (n := 32) hJ (by decide) ⟨by omega, by omega⟩ dX1_set_84 ?_
              refine j_l2i hJ dX1_set_85 ?_
              refine j_ldc (v := 65535) (z := 65535) hJ (by decide) (by decide +kernel) dX1_set_86 ?_
              refine j_iand hJ (iZ_low16 _) dX1_set_88 ?_
              refine j_istore hJ (by decide) dX1_set_89 ?_
              refine j_lload_n hJ dX1_set_91 rfl ?_
              refine j_lconst (z := 0) hJ (by decide) dX1_set_92 ?_
              refine j_lcmp_ge (tgt := 114) hJ (by decide) ⟨by omega, by omega⟩ ⟨by omega, by omega⟩ dX1_set_93 dX1_set_94 (fun h93 => ?_) (fun h93 => ?_)
              · refine j_aload_n hJ dX1_set_114 rfl ?_
                refine j_iload_n hJ dX1_set_115 rfl ?_
                refine j_iload hJ dX1_set_116 rfl ?_
                refine j_iload hJ dX1_set_118 rfl ?_
                refine j_ldc (v := 65535) (z := 65535) hJ (by decide) (by decide +kernel) dX1_set_120 ?_
                refine j_iand hJ (iZ_low16 _) dX1_set_122 ?_
                refine j_callV hJ (kX1_put l D cI a _ _ _ _ ⟨by omega, by omega⟩ ⟨by omega, by omega⟩) rfl gX1_set_X1_put rfl hdX1_put rfl ⟨Nat.le_of_ble_eq_true rfl, Nat.le_of_ble_eq_true rfl⟩ (Nat.le_of_ble_eq_true rfl) (Nat.le_of_ble_eq_true rfl) rfl rfl dX1_set_123 (fun _ _ h => False.elim h) (fun r123 Z123 hp123 => ?_)
                obtain ⟨rfl, rfl⟩ := hp123
                refine j_iinc hJ (by decide) dX1_set_126 rfl ?_
                refine j_goto (tgt := 72) hJ (by decide) dX1_set_129 ?_
                refine j_re (lv' := [(0, _), (1, _), (2, _), (4, _), (5, _), (6, _)]) hJ ?_ ⟨rfl, rfl, rfl, rfl, rfl, rfl, trivial⟩
                refine j_iload hJ dX1_set_72 rfl ?_
                refine j_iconst hJ dX1_set_74 ?_
                refine j_icmp_ge (tgt := 132) hJ (by decide) ⟨by omega, by omega⟩ ⟨by omega, by omega⟩ dX1_set_75 (fun h75 => absurd h75 (by decide)) (fun h75 => ?_)
                refine j_lload_n hJ dX1_set_78 rfl ?_
                refine j_bipush hJ (by decide) dX1_set_79 ?_
                refine j_iload hJ dX1_set_81 rfl ?_
                refine j_imul hJ dX1_set_83 ?_
                refine j_lshr (n := 48) hJ (by decide) ⟨by omega, by omega⟩ dX1_set_84 ?_
                refine j_l2i hJ dX1_set_85 ?_
                refine j_ldc (v := 65535) (z := 65535) hJ (by decide) (by decide +kernel) dX1_set_86 ?_
                refine j_iand hJ (iZ_low16 _) dX1_set_88 ?_
                refine j_istore hJ (by decide) dX1_set_89 ?_
                refine j_lload_n hJ dX1_set_91 rfl ?_
                refine j_lconst (z := 0) hJ (by decide) dX1_set_92 ?_
                refine j_lcmp_ge (tgt := 114) hJ (by decide) ⟨by omega, by omega⟩ ⟨by omega, by omega⟩ dX1_set_93 dX1_set_94 (fun h93 => ?_) (fun h93 => ?_)
                · refine j_aload_n hJ dX1_set_114 rfl ?_
                  refine j_iload_n hJ dX1_set_115 rfl ?_
                  refine j_iload hJ dX1_set_116 rfl ?_
                  refine j_iload hJ dX1_set_118 rfl ?_
                  refine j_ldc (v := 65535) (z := 65535) hJ (by decide) (by decide +kernel) dX1_set_120 ?_
                  refine j_iand hJ (iZ_low16 _) dX1_set_122 ?_
                  refine j_callV hJ (kX1_put l D cI a _ _ _ _ ⟨by omega, by omega⟩ ⟨by omega, by omega⟩) rfl gX1_set_X1_put rfl hdX1_put rfl ⟨Nat.le_of_ble_eq_true rfl, Nat.le_of_ble_eq_true rfl⟩ (Nat.le_of_ble_eq_true rfl) (Nat.le_of_ble_eq_true rfl) rfl rfl dX1_set_123 (fun _ _ h => False.elim h) (fun r123 Z123 hp123 => ?_)
                  obtain ⟨rfl, rfl⟩ := hp123
                  refine j_iinc hJ (by decide) dX1_set_126 rfl ?_
                  refine j_goto (tgt := 72) hJ (by decide) dX1_set_129 ?_
                  refine j_re (lv' := [(0, _), (1, _), (2, _), (4, _), (5, _), (6, _)]) hJ ?_ ⟨rfl, rfl, rfl, rfl, rfl, rfl, trivial⟩
                  refine j_iload hJ dX1_set_72 rfl ?_
                  refine j_iconst hJ dX1_set_74 ?_
                  refine j_icmp_ge (tgt := 132) hJ (by decide) ⟨by omega, by omega⟩ ⟨by omega, by omega⟩ dX1_set_75 (fun h75 => ?_) (fun h75 => absurd h75 (by decide))
                  exact j_vret hJ (Nat.le_of_ble_eq_true rfl) (⟨rfl, hfin _ _ _ _ _ ⟨by omega, by omega⟩ (by have := sg_cases v; omega) ⟨by omega, by omega⟩ ⟨by omega, by omega⟩ ⟨by omega, by omega⟩ ⟨by omega, by omega⟩ (by have := sg_cases v; omega)⟩) dX1_set_132
                · omega
              · omega
            · omega
          · omega
        · omega
end M8
end
section
theorem row_top {Z : ZZ} {g : Nat → Int} (h : MI Z g) {i : Nat} (hi : i < 12) : ∀ k, 1024 ≤ k → k < 2100 → Z (i + 2) k = 0 := by
  intro k h1 h2
  have hd := h.1 i (by omega)
  have hg := h.2 i hi
  have hl : lenr (Z (i + 2)) 2100 ≤ 1024 := (lenr_iff (B := 65536) (by decide) hd).mpr (by rw [hg.1]; exact hg.2.2)
  exact lenr_zero _ 2100 k (by omega) h2
theorem zup_zrw {Z : ZZ} {j n i k : Nat} {f : Nat → Int} {v : Int} (h : i ≠ j) : zup (zrw Z j n f) i k v = zrw (zup Z i k v) j n f := by
  funext j' i'
  unfold zup zrw
  by_cases h1 : j' = j ∧ i' < n
  · rw [if_neg (by omega), if_pos h1, if_pos h1]
  · rw [if_neg h1, if_neg h1]
/-- the digits of a number with two words' digits ahead -/
def apf (f : Nat → Int) (n : Nat) : Nat → Int := fun i => if 2 ≤ i ∧ i < n + 2 then f (i - 2) else 0
theorem apf_s (f : Nat → Int) (n i : Nat) : fset (apf f n) (n + 2) (f n) i = apf f (n + 1) i := by
  unfold fset apf
  by_cases h : i = n + 2
  · rw [if_pos h, if_pos (by omega), h]; rfl
  · rw [if_neg h]
    by_cases h2 : 2 ≤ i ∧ i < n + 2
    · rw [if_pos h2, if_pos (by omega)]
    · rw [if_neg h2, if_neg (by omega)]
theorem apf_v {f : Nat → Int} (hf : ∀ k, 1024 ≤ k → k < 2100 → f k = 0) (x y : Int) : vs 65536 (fset (fset (apf f 1024) 0 x) 1 y) 2100 = vs 65536 f 2100 * 4294967296 + (x + y * 65536) := by
  rw [show 2100 = 2 + 2098 from rfl, vs_add]
  have e1 : vs 65536 (fun i => fset (fset (apf f 1024) 0 x) 1 y (2 + i)) 2098 = vs 65536 f (2 + 2098) := by
    rw [vs_top (m := 1024) (n := 2098) (by omega), vs_top (f := f) (m := 1024) (n := 2 + 2098) (by omega) hf]
    · refine vs_congr (fun i hi => ?_)
      show fset (fset (apf f 1024) 0 x) 1 y (2 + i) = f i
      rw [fset_ne (by omega), fset_ne (by omega)]
      unfold apf
      rw [if_pos (by omega), show 2 + i - 2 = i by omega]
    · intro i h1 h2
      show fset (fset (apf f 1024) 0 x) 1 y (2 + i) = 0
      rw [fset_ne (by omega), fset_ne (by omega)]
      unfold apf
      rw [if_neg (by omega)]
  rw [e1]
  show 0 + fset (fset (apf f 1024) 0 x) 1 y 0 * 65536 ^ 0 + fset (fset (apf f 1024) 0 x) 1 y 1 * 65536 ^ 1 + _ = _
  rw [fset_ne (by omega), fset_eq, fset_eq, show (65536 : Int) ^ 0 = 1 by decide, show (65536 : Int) ^ 1 = 65536 by decide, show (65536 : Int) ^ 2 = 4294967296 by decide]
  omega
theorem apf_d {f : Nat → Int} (hf : dgs 65536 2100 f) {x y : Int} (hx : 0 ≤ x ∧ x < 65536) (hy : 0 ≤ y ∧ y < 65536) : dgs 65536 2100 (fset (fset (apf f 1024) 0 x) 1 y) := by
  intro i hi
  unfold fset apf
  split
  · exact hy
  · split
    · exact hx
    · split
      · exact hf _ (by omega)
      · exact ⟨by omega, by omega⟩
section M9
variable (l : Launch) (D : va_G) (cI : ClassId) (a : Nat → Nat) (Z : ZZ)
set_option maxRecDepth 20000 in
theorem kX1_append (g : Nat → Int) (hI : MI Z g) (r w : Int) (h0 : i32 r) (h1 : i32 w) : Ct l D (tM cI) (wM cI a) yX1_append wsX1_append 3 0 67 [.ref (a 0), .int (iZ r), .int (iZ w)] Z (fun v Z' => v = none ∧ Z' 0 0 = (oApp g r w).1 ∧ MI Z' (oApp g r w).2) nX := by
  refine Ct.of (cc := cX1_append) (maxL := 4) (ret := none) rfl (by decide) rfl (Nat.le_of_ble_eq_true rfl) (fun J hJ => ?_)
  have hin : ∀ w ∈ u_ws RX1 TX1 3, w ∈ wsX1_append := by decide +kernel
  unfold oApp at hJ
  have p0 := isR_spec r
  have hc := (hI.code 0).sgn (j := 12) (by omega) 0
  have hcl : mclr (zup Z 0 0 0) 12 = zrw (zup (zup Z 0 0 0) 1 12 0) 14 2100 (fun _ => 0) := zup_zrw (by omega)
  have hT0 : zup (zup Z 0 0 0) 1 12 0 0 0 = 0 := by rw [zup_ne (by omega), zup_eq]
  generalize hT : zup (zup Z 0 0 0) 1 12 0 = T at hc hcl hT0
  have fin : isRg r → IsJ l D (tM cI) (wM cI a) cX1_append 4 wsX1_append RX1 3 0 67 none (fun v Z' => v = none ∧ Z' 0 0 = (lim g r ((if g r.toNat < 0 then -1 else 1) * (((g r.toNat).natAbs : Int) * 4294967296 + w % 4294967296))).1 ∧ MI Z' (lim g r ((if g r.toNat < 0 then -1 else 1) * (((g r.toNat).natAbs : Int) * 4294967296 + w % 4294967296))).2) nX J → J (zrw T 14 2100 (apf (T (r.toNat + 2)) 1024)) 0 60 [(0, .ref (a 0)), (1, .int (iZ r)), (2, .int (iZ w))] [] := by
    intro hr hJ
    have hg := hc.2 r.toNat (by omega)
    have hd := hc.1 r.toNat (by omega)
    have ht := row_top hc (i := r.toNat) (by omega)
    have e1 : (12 : Int).toNat = 12 := rfl
    have e2 : (0 : Int).toNat = 0 := rfl
    have e3 : (1 : Int).toNat = 1 := rfl
    have n9 : (w % 4294967296 / 65536 < 65536) := by omega
    have hz : vs 65536 (fset (fset (apf (T (r.toNat + 2)) 1024) 0 (w % 65536)) 1 (w % 4294967296 / 65536)) 2100 = ((g r.toNat).natAbs : Int) * 4294967296 + w % 4294967296 := by
      rw [apf_v ht, hg.1]; omega
    have hd2 := apf_d hd (x := w % 65536) (y := w % 4294967296 / 65536) ⟨by omega, by omega⟩ ⟨by omega, by omega⟩
    have hM := hc.row (j := 12) (by omega) hd2
    have sc := sg_cases (g r.toNat)
    have go : ∀ s : Int, s = (if g r.toNat < 0 then -1 else 1) → J (zup (zrw T 14 2100 (fset (fset (apf (T (r.toNat + 2)) 1024) 0 (w % 65536)) 1 (w % 4294967296 / 65536))) 1 12 s) 0 103 [(0, .ref (a 0)), (1, .int (iZ r)), (2, .int (iZ w))] [] := by
      intro s hs
      have hs1 : s = 1 ∨ s = -1 := by rw [hs]; split <;> omega
      have hM2 := hM.sgn (j := 12) (by omega) s
      have hv : vs 65536 (zup (zrw T 14 2100 (fset (fset (apf (T (r.toNat + 2)) 1024) 0 (w % 65536)) 1 (w % 4294967296 / 65536))) 1 12 s 14) 2100 = (((if g r.toNat < 0 then -1 else 1) * (((g r.toNat).natAbs : Int) * 4294967296 + w % 4294967296)).natAbs : Int) := by
        rw [zup_off _ 1 _ _ (by omega), vs_congr (g := fset (fset (apf (T (r.toNat + 2)) 1024) 0 (w % 65536)) 1 (w % 4294967296 / 65536)) (fun k hk => zrw_in hk), hz, ← hs]
        rcases hs1 with rfl | rfl <;> omega
      have hsg : ((if g r.toNat < 0 then -1 else 1) * (((g r.toNat).natAbs : Int) * 4294967296 + w % 4294967296)) ≠ 0 → zup (zrw T 14 2100 (fset (fset (apf (T (r.toNat + 2)) 1024) 0 (w % 65536)) 1 (w % 4294967296 / 65536))) 1 12 s 1 12 = ((if g r.toNat < 0 then -1 else 1) * (((g r.toNat).natAbs : Int) * 4294967296 + w % 4294967296)).sign := by
        intro hne
        rw [zup_eq, ← hs]
        rw [← hs] at hne
        have q := sg_cases (s * (((g r.toNat).natAbs : Int) * 4294967296 + w % 4294967296))
        rcases hs1 with rfl | rfl <;> omega
      have h00 : zup (zrw T 14 2100 (fset (fset (apf (T (r.toNat + 2)) 1024) 0 (w % 65536)) 1 (w % 4294967296 / 65536))) 1 12 s 0 0 = 0 := by rw [zup_ne (by omega), zrw_off (by omega)]; exact hT0
      refine j_aload_n hJ dX1_append_103 rfl ?_
      refine j_iload_n hJ dX1_append_104 rfl ?_
      refine j_callV hJ (kX1_give l D cI a _ _ ⟨by omega, by omega⟩ (hM2.1 12 (by omega))) rfl gX1_append_X1_give rfl hdX1_give rfl ⟨Nat.le_of_ble_eq_true rfl, Nat.le_of_ble_eq_true rfl⟩ (Nat.le_of_ble_eq_true rfl) (Nat.le_of_ble_eq_true rfl) rfl rfl dX1_append_105 (fun _ _ h => False.elim h) (fun r105 Z105 hp105 => ?_)
      obtain ⟨rfl, hp⟩ := hp105
      exact j_vret hJ (Nat.le_of_ble_eq_true rfl) (⟨rfl, give_MI hM2 hr hv hsg h00 hp⟩) dX1_append_108
    refine j_aload_n hJ dX1_append_60 rfl ?_
    refine j_bipush hJ (by decide) dX1_append_61 ?_
    refine j_iconst hJ dX1_append_63 ?_
    refine j_iload_n hJ dX1_append_64 rfl ?_
    refine j_ldc (v := 65535) (z := 65535) hJ (by decide) (by decide +kernel) dX1_append_65 ?_
    refine j_iand hJ (iZ_low16 _) dX1_append_67 ?_
    refine j_callV hJ (kX1_put l D cI a _ _ _ _ ⟨by omega, by omega⟩ ⟨by omega, by omega⟩) rfl gX1_append_X1_put rfl hdX1_put rfl ⟨Nat.le_of_ble_eq_true rfl, Nat.le_of_ble_eq_true rfl⟩ (Nat.le_of_ble_eq_true rfl) (Nat.le_of_ble_eq_true rfl) rfl rfl dX1_append_68 (fun _ _ h => False.elim h) (fun r68 Z68 hp68 => ?_)
    obtain ⟨rfl, rfl⟩ := hp68
    rw [e1, e2, zrw_upd (by omega)]
    refine j_aload_n hJ dX1_append_71 rfl ?_
    refine j_bipush hJ (by decide) dX1_append_72 ?_
    refine j_iconst hJ dX1_append_74 ?_
    refine j_iload_n hJ dX1_append_75 rfl ?_
    refine j_bipush hJ (by decide) dX1_append_76 ?_
    refine j_iushr (n := 16) hJ (by decide) dX1_append_78 ?_
    refine j_callV hJ (kX1_put l D cI a _ _ _ _ ⟨by omega, by omega⟩ ⟨by omega, by omega⟩) rfl gX1_append_X1_put rfl hdX1_put rfl ⟨Nat.le_of_ble_eq_true rfl, Nat.le_of_ble_eq_true rfl⟩ (Nat.le_of_ble_eq_true rfl) (Nat.le_of_ble_eq_true rfl) rfl rfl dX1_append_79 (fun _ _ h => False.elim h) (fun r79 Z79 hp79 => ?_)
    obtain ⟨rfl, rfl⟩ := hp79
    rw [e1, e3, zrw_upd (by omega)]
    refine j_aload_n hJ dX1_append_82 rfl ?_
    refine m_sign hJ hin (by decide +kernel) dX1_append_83 ?_
    refine j_bipush hJ (by decide) dX1_append_86 ?_
    refine j_aload_n hJ dX1_append_88 rfl ?_
    refine m_sign hJ hin (by decide +kernel) dX1_append_89 ?_
    refine j_iload_n hJ dX1_append_92 rfl ?_
    refine m_ald_sg hJ ⟨by omega, by omega⟩ dX1_append_93 ?_
    rw [zrw_off (by omega), hg.2.1]
    refine j_if_ge (tgt := 101) hJ (by decide) ⟨by omega, by omega⟩ dX1_append_94 (fun h94 => ?_) (fun h94 => ?_)
    · refine j_iconst hJ dX1_append_101 ?_
      refine m_ast_sg hJ ⟨by omega, by omega⟩ dX1_append_102 ?_
      first | exact go _ (by rw [if_pos (by omega)]) | exact go _ (by rw [if_neg (by omega)])
    · refine j_iconst hJ dX1_append_97 ?_
      refine j_goto (tgt := 102) hJ (by decide) dX1_append_98 ?_
      refine m_ast_sg hJ ⟨by omega, by omega⟩ dX1_append_102 ?_
      first | exact go _ (by rw [if_pos (by omega)]) | exact go _ (by rw [if_neg (by omega)])
  have loop : isRg r → IsJ l D (tM cI) (wM cI a) cX1_append 4 wsX1_append RX1 3 0 67 none (fun v Z' => v = none ∧ Z' 0 0 = (lim g r ((if g r.toNat < 0 then -1 else 1) * (((g r.toNat).natAbs : Int) * 4294967296 + w % 4294967296))).1 ∧ MI Z' (lim g r ((if g r.toNat < 0 then -1 else 1) * (((g r.toNat).natAbs : Int) * 4294967296 + w % 4294967296))).2) nX J → ∀ (m n : Nat), n + m = 1024 → J (zrw T 14 2100 (apf (T (r.toNat + 2)) n)) 0 32 [(0, .ref (a 0)), (1, .int (iZ r)), (2, .int (iZ w)), (3, .int (iZ n))] [] := by
    intro hr hJ m
    induction m with
    | zero =>
      intro n hn
      have hn2 : n = 1024 := by omega
      subst hn2
      refine j_iload_n hJ dX1_append_32 rfl ?_
      refine j_sipush hJ (by decide) dX1_append_33 ?_
      refine j_icmp_ge (tgt := 60) hJ (by decide) ⟨by omega, by omega⟩ ⟨by omega, by omega⟩ dX1_append_36 (fun h36 => ?_) (fun h36 => ?_)
      · exact j_re hJ (fin hr hJ) ⟨rfl, rfl, rfl, trivial⟩
      · omega
    | succ m ih =>
      intro n hn
      have e1 : zrw T 14 2100 (apf (T (r.toNat + 2)) n) (r.toNat + 2) = T (r.toNat + 2) := zrw_off (by omega)
      have e3 : ((n : Nat) : Int).toNat = n := by omega
      have e4 : ((n : Nat) : Int) + 2 = ((n + 2 : Nat) : Int) := by omega
      refine j_iload_n hJ dX1_append_32 rfl ?_
      refine j_sipush hJ (by decide) dX1_append_33 ?_
      refine j_icmp_ge (tgt := 60) hJ (by decide) ⟨by omega, by omega⟩ ⟨by omega, by omega⟩ dX1_append_36 (fun h36 => ?_) (fun h36 => ?_)
      · omega
      · refine j_aload_n hJ dX1_append_39 rfl ?_
        refine j_bipush hJ (by decide) dX1_append_40 ?_
        refine j_iload_n hJ dX1_append_42 rfl ?_
        refine j_iconst hJ dX1_append_43 ?_
        refine j_iadd hJ dX1_append_44 ?_
        refine j_aload_n hJ dX1_append_45 rfl ?_
        refine j_iload_n hJ dX1_append_46 rfl ?_
        refine j_iload_n hJ dX1_append_47 rfl ?_
        refine j_callV hJ (kX1_get l D cI a _ _ _ ⟨by omega, by omega⟩ ⟨by omega, by omega⟩) rfl gX1_append_X1_get rfl hdX1_get rfl ⟨Nat.le_of_ble_eq_true rfl, Nat.le_of_ble_eq_true rfl⟩ (Nat.le_of_ble_eq_true rfl) (Nat.le_of_ble_eq_true rfl) rfl rfl dX1_append_48 (fun _ _ h => False.elim h) (fun r48 Z48 hp48 => ?_)
        obtain ⟨rfl, rfl⟩ := hp48
        rw [e3, e1]
        refine j_callV hJ (kX1_put l D cI a _ _ _ _ ⟨by omega, by omega⟩ ⟨by omega, by omega⟩) rfl gX1_append_X1_put rfl hdX1_put rfl ⟨Nat.le_of_ble_eq_true rfl, Nat.le_of_ble_eq_true rfl⟩ (Nat.le_of_ble_eq_true rfl) (Nat.le_of_ble_eq_true rfl) rfl rfl dX1_append_51 (fun _ _ h => False.elim h) (fun r51 Z51 hp51 => ?_)
        obtain ⟨rfl, rfl⟩ := hp51
        rw [show (12 : Int).toNat + 2 = 14 from rfl, show (((n : Nat) : Int) + 2).toNat = n + 2 by omega, zrw_upd (by omega), zrw_congr (fun i _ => apf_s _ n i)]
        refine j_iinc hJ (by decide) dX1_append_54 rfl ?_
        refine j_goto (tgt := 32) hJ (by decide) dX1_append_57 ?_
        exact j_re hJ (ih (n + 1) (by omega)) ⟨rfl, rfl, rfl, rfl, trivial⟩
  refine j_aload_n hJ dX1_append_0 rfl ?_
  refine j_iload_n hJ dX1_append_1 rfl ?_
  refine j_callS hJ (kX1_isRegister l D _ ⟨by omega, by omega⟩) rfl gX1_append_X1_isRegister rfl hsX1_isRegister rfl ⟨Nat.le_of_ble_eq_true rfl, Nat.le_of_ble_eq_true rfl⟩ (Nat.le_of_ble_eq_true rfl) (Nat.le_of_ble_eq_true rfl) dX1_append_2 (fun _ h => False.elim h) (fun r2 hp2 => ?_)
  subst hp2
  refine j_if_eq (tgt := 12) hJ (by decide) ⟨by omega, by omega⟩ dX1_append_5 (fun h5 => ?_) (fun h5 => ?_)
  · rw [if_neg (by omega)] at hJ
    refine j_iconst hJ dX1_append_12 ?_
    refine m_putcode hJ hin (by decide +kernel) dX1_append_13 ?_
    refine j_aload_n hJ dX1_append_16 rfl ?_
    refine m_code hJ hin (by decide +kernel) dX1_append_17 ?_
    rw [zup_eq]
    refine j_if_le (tgt := 24) hJ (by decide) ⟨by omega, by omega⟩ dX1_append_20 (fun h20 => absurd h20 (by decide)) (fun h20 => ?_)
    exact j_vret hJ (Nat.le_of_ble_eq_true rfl) (⟨rfl, zup_eq _ _ _ _, hI.code 1⟩) dX1_append_23
  · rw [if_pos ⟨by omega, by omega⟩] at hJ
    refine j_iconst hJ dX1_append_8 ?_
    refine j_goto (tgt := 13) hJ (by decide) dX1_append_9 ?_
    refine m_putcode hJ hin (by decide +kernel) dX1_append_13 ?_
    refine j_aload_n hJ dX1_append_16 rfl ?_
    refine m_code hJ hin (by decide +kernel) dX1_append_17 ?_
    rw [zup_eq]
    refine j_if_le (tgt := 24) hJ (by decide) ⟨by omega, by omega⟩ dX1_append_20 (fun h20 => ?_) (fun h20 => absurd h20 (by decide))
    refine j_aload_n hJ dX1_append_24 rfl ?_
    refine j_bipush hJ (by decide) dX1_append_25 ?_
    refine j_callV hJ (kX1_clear l D cI a _ _ ⟨by omega, by omega⟩) rfl gX1_append_X1_clear rfl hdX1_clear rfl ⟨Nat.le_of_ble_eq_true rfl, Nat.le_of_ble_eq_true rfl⟩ (Nat.le_of_ble_eq_true rfl) (Nat.le_of_ble_eq_true rfl) rfl rfl dX1_append_27 (fun _ _ h => False.elim h) (fun r27 Z27 hp27 => ?_)
    obtain ⟨rfl, rfl⟩ := hp27
    rw [show (12 : Int).toNat = 12 from rfl, hcl]
    refine j_iconst hJ dX1_append_30 ?_
    refine j_istore_n hJ (by decide) dX1_append_31 ?_
    have h9 := loop ⟨by omega, by omega⟩ hJ 1024 0 (by omega)
    rw [zrw_congr (g := fun _ => 0) (fun i _ => by unfold apf; rw [if_neg (by omega)])] at h9
    exact j_re hJ h9 ⟨rfl, rfl, rfl, rfl, trivial⟩
theorem two_digits {f : Nat → Int} (hf : dgs 65536 2100 f) {k : Nat} (hk : k < 512) : vs 65536 f 2100 / 4294967296 ^ k % 4294967296 = f (2 * k + 1) * 65536 + f (2 * k) := by
  have hp : (4294967296 : Int) ^ k = 65536 ^ (2 * k) := by rw [← pw_mul]; rfl
  obtain ⟨m, hm⟩ : ∃ m, 2100 = 2 * k + (m + 1 + 1) := ⟨2100 - 2 * k - 2, by omega⟩
  have h1 := hf (2 * k) (by omega)
  have h2 := hf (2 * k + 1) (by omega)
  rw [hp]
  rw [hm] at hf ⊢
  rw [vs_div (by decide) hf, vs_1, vs_1]
  show (f (2 * k + 0) + 65536 * (f (2 * k + (1 + 0)) + 65536 * _)) % 4294967296 = _
  rw [Nat.add_zero, Nat.add_zero]
  omega
set_option maxRecDepth 20000 in
theorem kX1_word (g : Nat → Int) (hI : MI Z g) (r k : Int) (h0 : i32 r) (h1 : i32 k) : Ct l D (tM cI) (wM cI a) yX1_word wsX1_word 1 0 22 [.ref (a 0), .int (iZ r), .int (iZ k)] Z (fun v Z' => v = some (.int (iZ (oWord g r k).2)) ∧ Z' 0 0 = (oWord g r k).1 ∧ MI Z' g) nX := by
  refine Ct.of (cc := cX1_word) (maxL := 3) (ret := some .int) rfl (by decide) rfl (Nat.le_of_ble_eq_true rfl) (fun J hJ => ?_)
  have hin : ∀ w ∈ u_ws RX1 TX1 3, w ∈ wsX1_word := by decide +kernel
  unfold oWord at hJ
  have p0 := isR_spec r
  refine j_aload_n hJ dX1_word_0 rfl ?_
  refine j_iload_n hJ dX1_word_1 rfl ?_
  refine j_callS hJ (kX1_isRegister l D _ ⟨by omega, by omega⟩) rfl gX1_word_X1_isRegister rfl hsX1_isRegister rfl ⟨Nat.le_of_ble_eq_true rfl, Nat.le_of_ble_eq_true rfl⟩ (Nat.le_of_ble_eq_true rfl) (Nat.le_of_ble_eq_true rfl) dX1_word_2 (fun _ h => False.elim h) (fun r2 hp2 => ?_)
  subst hp2
  refine j_if_eq (tgt := 23) hJ (by decide) ⟨by omega, by omega⟩ dX1_word_5 (fun h5 => ?_) (fun h5 => ?_)
  · rw [if_neg (by omega)] at hJ
    refine j_iconst hJ dX1_word_23 ?_
    refine m_putcode hJ hin (by decide +kernel) dX1_word_24 ?_
    refine j_aload_n hJ dX1_word_27 rfl ?_
    refine m_code hJ hin (by decide +kernel) dX1_word_28 ?_
    rw [zup_eq]
    refine j_if_le (tgt := 38) hJ (by decide) ⟨by omega, by omega⟩ dX1_word_31 (fun h31 => absurd h31 (by decide)) (fun h31 => ?_)
    refine j_iconst hJ dX1_word_34 ?_
    refine j_goto (tgt := 60) hJ (by decide) dX1_word_35 ?_
    exact j_iret hJ (Nat.le_of_ble_eq_true rfl) (by first | exact ⟨rfl, zup_eq _ _ _ _, hI.code 1⟩ | exact ⟨by rw [e2]; rfl, zup_eq _ _ _ _, hc⟩) dX1_word_60
  · refine j_iload_n hJ dX1_word_8 rfl ?_
    refine j_if_lt (tgt := 23) hJ (by decide) ⟨by omega, by omega⟩ dX1_word_9 (fun h9 => ?_) (fun h9 => ?_)
    · rw [if_neg (by omega)] at hJ
      refine j_iconst hJ dX1_word_23 ?_
      refine m_putcode hJ hin (by decide +kernel) dX1_word_24 ?_
      refine j_aload_n hJ dX1_word_27 rfl ?_
      refine m_code hJ hin (by decide +kernel) dX1_word_28 ?_
      rw [zup_eq]
      refine j_if_le (tgt := 38) hJ (by decide) ⟨by omega, by omega⟩ dX1_word_31 (fun h31 => absurd h31 (by decide)) (fun h31 => ?_)
      refine j_iconst hJ dX1_word_34 ?_
      refine j_goto (tgt := 60) hJ (by decide) dX1_word_35 ?_
      exact j_iret hJ (Nat.le_of_ble_eq_true rfl) (by first | exact ⟨rfl, zup_eq _ _ _ _, hI.code 1⟩ | exact ⟨by rw [e2]; rfl, zup_eq _ _ _ _, hc⟩) dX1_word_60
    · refine j_iload_n hJ dX1_word_12 rfl ?_
      refine j_sipush hJ (by decide) dX1_word_13 ?_
      refine j_icmp_ge (tgt := 23) hJ (by decide) ⟨by omega, by omega⟩ ⟨by omega, by omega⟩ dX1_word_16 (fun h16 => ?_) (fun h16 => ?_)
      · rw [if_neg (by omega)] at hJ
        refine j_iconst hJ dX1_word_23 ?_
        refine m_putcode hJ hin (by decide +kernel) dX1_word_24 ?_
        refine j_aload_n hJ dX1_word_27 rfl ?_
        refine m_code hJ hin (by decide +kernel) dX1_word_28 ?_
        rw [zup_eq]
        refine j_if_le (tgt := 38) hJ (by decide) ⟨by omega, by omega⟩ dX1_word_31 (fun h31 => absurd h31 (by decide)) (fun h31 => ?_)
        refine j_iconst hJ dX1_word_34 ?_
        refine j_goto (tgt := 60) hJ (by decide) dX1_word_35 ?_
        exact j_iret hJ (Nat.le_of_ble_eq_true rfl) (by first | exact ⟨rfl, zup_eq _ _ _ _, hI.code 1⟩ | exact ⟨by rw [e2]; rfl, zup_eq _ _ _ _, hc⟩) dX1_word_60
      · rw [if_pos ⟨⟨by omega, by omega⟩, by omega, by omega⟩] at hJ
        have hc := hI.code 0
        have hd := hc.1 r.toNat (by omega)
        have q1 := hd (2 * k.toNat) (by omega)
        have q2 := hd (2 * k.toNat + 1) (by omega)
        have e2 := two_digits hd (k := k.toNat) (by omega)
        rw [(hc.2 r.toNat (by omega)).1] at e2
        refine j_iconst hJ dX1_word_19 ?_
        refine j_goto (tgt := 24) hJ (by decide) dX1_word_20 ?_
        refine m_putcode hJ hin (by decide +kernel) dX1_word_24 ?_
        refine j_aload_n hJ dX1_word_27 rfl ?_
        refine m_code hJ hin (by decide +kernel) dX1_word_28 ?_
        rw [zup_eq]
        refine j_if_le (tgt := 38) hJ (by decide) ⟨by omega, by omega⟩ dX1_word_31 (fun h31 => ?_) (fun h31 => absurd h31 (by decide))
        refine j_aload_n hJ dX1_word_38 rfl ?_
        refine j_iload_n hJ dX1_word_39 rfl ?_
        refine j_iconst hJ dX1_word_40 ?_
        refine j_iload_n hJ dX1_word_41 rfl ?_
        refine j_imul hJ dX1_word_42 ?_
        refine j_callV hJ (kX1_get l D cI a _ _ _ ⟨by omega, by omega⟩ ⟨by omega, by omega⟩) rfl gX1_word_X1_get rfl hdX1_get rfl ⟨Nat.le_of_ble_eq_true rfl, Nat.le_of_ble_eq_true rfl⟩ (Nat.le_of_ble_eq_true rfl) (Nat.le_of_ble_eq_true rfl) rfl rfl dX1_word_43 (fun _ _ h => False.elim h) (fun r43 Z43 hp43 => ?_)
        obtain ⟨rfl, rfl⟩ := hp43
        rw [show (2 * k).toNat = 2 * k.toNat by omega]
        refine j_aload_n hJ dX1_word_46 rfl ?_
        refine j_iload_n hJ dX1_word_47 rfl ?_
        refine j_iconst hJ dX1_word_48 ?_
        refine j_iload_n hJ dX1_word_49 rfl ?_
        refine j_imul hJ dX1_word_50 ?_
        refine j_iconst hJ dX1_word_51 ?_
        refine j_iadd hJ dX1_word_52 ?_
        refine j_callV hJ (kX1_get l D cI a _ _ _ ⟨by omega, by omega⟩ ⟨by omega, by omega⟩) rfl gX1_word_X1_get rfl hdX1_get rfl ⟨Nat.le_of_ble_eq_true rfl, Nat.le_of_ble_eq_true rfl⟩ (Nat.le_of_ble_eq_true rfl) (Nat.le_of_ble_eq_true rfl) rfl rfl dX1_word_53 (fun _ _ h => False.elim h) (fun r53 Z53 hp53 => ?_)
        obtain ⟨rfl, rfl⟩ := hp53
        rw [show (2 * k + 1).toNat = 2 * k.toNat + 1 by omega]
        refine j_bipush hJ (by decide) dX1_word_56 ?_
        refine j_ishl (n := 16) hJ (by decide) dX1_word_58 ?_
        refine j_ior hJ ((iZ_or_comm _ _).trans (iZ_or (n := 16) (by decide) ⟨by omega, by omega⟩)) dX1_word_59 ?_
        exact j_iret hJ (Nat.le_of_ble_eq_true rfl) (by first | exact ⟨rfl, zup_eq _ _ _ _, hI.code 1⟩ | exact ⟨by rw [e2]; rfl, zup_eq _ _ _ _, hc⟩) dX1_word_60
set_option maxRecDepth 20000 in
theorem kX1_residue (g : Nat → Int) (hI : MI Z g) (r m : Int) (h0 : i32 r) (h1 : i32 m) : Ct l D (tM cI) (wM cI a) yX1_residue wsX1_residue 2 0 44 [.ref (a 0), .int (iZ r), .int (iZ m)] Z (fun v Z' => v = some (.int (iZ (oRes g r m).2)) ∧ Z' 0 0 = (oRes g r m).1 ∧ MI Z' g) nX := by
  refine Ct.of (cc := cX1_residue) (maxL := 6) (ret := some .int) rfl (by decide) rfl (Nat.le_of_ble_eq_true rfl) (fun J hJ => ?_)
  have hin : ∀ w ∈ u_ws RX1 TX1 3, w ∈ wsX1_residue := by decide +kernel
  unfold oRes at hJ
  have p0 := isR_spec r
  have hc := hI.code 0
  have hT0 : zup Z 0 0 0 0 0 = 0 := zup_eq _ _ _ _
  generalize hT : zup Z 0 0 0 = T at hc hT0
  have loop : isRg r → 1 ≤ m → IsJ l D (tM cI) (wM cI a) cX1_residue 6 wsX1_residue RX1 2 0 44 (some .int) (fun v Z' => v = some (.int (iZ (g r.toNat % m))) ∧ Z' 0 0 = 0 ∧ MI Z' g) nX J → ∀ n : Nat, n ≤ 2100 → J T 0 48 [(0, .ref (a 0)), (1, .int (iZ r)), (2, .int (iZ m)), (3, .long (lZ (vs 65536 (T (r.toNat + 2)) 2100 / 65536 ^ n % m))), (5, .int (iZ ((n : Int) - 1)))] [] := by
    intro hr hm hJ n
    have hd := hc.1 r.toNat (by omega)
    have hg := hc.2 r.toNat (by omega)
    induction n with
    | zero =>
      intro hn
      have sc := sg_cases (g r.toNat)
      have e0 : vs 65536 (T (r.toNat + 2)) 2100 / 65536 ^ 0 % m = ((g r.toNat).natAbs : Int) % m := by rw [Int.pow_zero, Int.ediv_one, hg.1]
      rw [e0]
      have b1 := Int.emod_nonneg ((g r.toNat).natAbs : Int) (show m ≠ 0 by omega)
      have b2 := Int.emod_lt_of_pos ((g r.toNat).natAbs : Int) (show 0 < m by omega)
      have fin1 : 0 ≤ g r.toNat → g r.toNat % m = ((g r.toNat).natAbs : Int) % m := fun q => by rw [show ((g r.toNat).natAbs : Int) = g r.toNat by omega]
      have fin2 : g r.toNat < 0 → ((g r.toNat).natAbs : Int) % m ≤ 0 → g r.toNat % m = ((g r.toNat).natAbs : Int) % m := fun q q2 => by
        rw [show ((g r.toNat).natAbs : Int) = - g r.toNat by omega] at b1 q2 ⊢
        have e : -g r.toNat % m = 0 := by omega
        rw [e]
        exact Int.emod_eq_zero_of_dvd ((Int.dvd_neg).mp (Int.dvd_of_emod_eq_zero e))
      have fin3 : g r.toNat < 0 → 0 < ((g r.toNat).natAbs : Int) % m → g r.toNat % m = m - ((g r.toNat).natAbs : Int) % m := fun q q2 => by
        rw [show ((g r.toNat).natAbs : Int) = - g r.toNat by omega] at b1 b2 q2 ⊢
        have e : g r.toNat = (m - -g r.toNat % m) + m * (-(-g r.toNat / m) - 1) := by
          have := Int.mul_ediv_add_emod (-g r.toNat) m
          grind
        rw [e, Int.add_mul_emod_self_left, ← e]
        exact Int.emod_eq_of_lt (by omega) (by omega)
      generalize ((g r.toNat).natAbs : Int) % m = y at b1 b2 fin1 fin2 fin3 ⊢
      refine j_iload hJ dX1_residue_48 rfl ?_
      refine j_if_lt (tgt := 77) hJ (by decide) ⟨by omega, by omega⟩ dX1_residue_50 (fun h50 => ?_) (fun h50 => ?_)
      · refine j_aload_n hJ dX1_residue_77 rfl ?_
        refine m_sign hJ hin (by decide +kernel) dX1_residue_78 ?_
        refine j_iload_n hJ dX1_residue_81 rfl ?_
        refine m_ald_sg hJ ⟨by omega, by omega⟩ dX1_residue_82 ?_
        rw [hg.2.1]
        refine j_if_ge (tgt := 99) hJ (by decide) ⟨by omega, by omega⟩ dX1_residue_83 (fun h83 => ?_) (fun h83 => ?_)
        · refine j_lload_n hJ dX1_residue_99 rfl ?_
          refine j_l2i hJ dX1_residue_100 ?_
          exact j_iret hJ (Nat.le_of_ble_eq_true rfl) (⟨by first | rw [fin1 (by omega)] | rw [fin2 (by omega) (by omega)] | rw [fin3 (by omega) (by omega)], hT0, hc⟩) dX1_residue_101
        · refine j_lload_n hJ dX1_residue_86 rfl ?_
          refine j_lconst (z := 0) hJ (by decide) dX1_residue_87 ?_
          refine j_lcmp_le (tgt := 99) hJ (by decide) ⟨by omega, by omega⟩ ⟨by omega, by omega⟩ dX1_residue_88 dX1_residue_89 (fun h88 => ?_) (fun h88 => ?_)
          · refine j_lload_n hJ dX1_residue_99 rfl ?_
            refine j_l2i hJ dX1_residue_100 ?_
            exact j_iret hJ (Nat.le_of_ble_eq_true rfl) (⟨by first | rw [fin1 (by omega)] | rw [fin2 (by omega) (by omega)] | rw [fin3 (by omega) (by omega)], hT0, hc⟩) dX1_residue_101
          · refine j_iload_n hJ dX1_residue_92 rfl ?_
            refine j_i2l hJ ⟨by omega, by omega⟩ dX1_residue_93 ?_
            refine j_lload_n hJ dX1_residue_94 rfl ?_
            refine j_lsub hJ dX1_residue_95 ?_
            refine j_goto (tgt := 100) hJ (by decide) dX1_residue_96 ?_
            refine j_l2i hJ dX1_residue_100 ?_
            exact j_iret hJ (Nat.le_of_ble_eq_true rfl) (⟨by first | rw [fin1 (by omega)] | rw [fin2 (by omega) (by omega)] | rw [fin3 (by omega) (by omega)], hT0, hc⟩) dX1_residue_101
      · omega
    | succ n ih =>
      intro hn
      have q1 := hd n (by omega)
      have e1 : (((n + 1 : Nat) : Int) - 1).toNat = n := by omega
      have b1 := Int.emod_nonneg (vs 65536 (T (r.toNat + 2)) 2100 / 65536 ^ (n + 1)) (show m ≠ 0 by omega)
      have b2 := Int.emod_lt_of_pos (vs 65536 (T (r.toNat + 2)) 2100 / 65536 ^ (n + 1)) (show 0 < m by omega)
      have dg := vs_digit (B := 65536) (by decide) (show n < 2100 by omega) hd
      have stp : (vs 65536 (T (r.toNat + 2)) 2100 / 65536 ^ (n + 1) % m * 65536 + T (r.toNat + 2) n) % m = vs 65536 (T (r.toNat + 2)) 2100 / 65536 ^ n % m := by
        have e2 : vs 65536 (T (r.toNat + 2)) 2100 / 65536 ^ n = vs 65536 (T (r.toNat + 2)) 2100 / 65536 ^ (n + 1) * 65536 + T (r.toNat + 2) n := by
          rw [pw_s, ← Int.ediv_ediv_of_nonneg (Int.le_of_lt (pw_pos (by decide) n))]
          omega
        rw [e2, Int.add_emod, Int.mul_emod, Int.emod_emod_of_dvd _ (Int.dvd_refl m), ← Int.mul_emod, ← Int.add_emod]
      generalize vs 65536 (T (r.toNat + 2)) 2100 / 65536 ^ (n + 1) % m = y at b1 b2 stp ⊢
      refine j_iload hJ dX1_residue_48 rfl ?_
      refine j_if_lt (tgt := 77) hJ (by decide) ⟨by omega, by omega⟩ dX1_residue_50 (fun h50 => ?_) (fun h50 => ?_)
      · omega
      · refine j_lload_n hJ dX1_residue_53 rfl ?_
        refine j_ldc2 (v := 65536) (z := 65536) hJ (by decide) (by decide +kernel) dX1_residue_54 ?_
        refine j_lmul hJ dX1_residue_57 ?_
        refine j_aload_n hJ dX1_residue_58 rfl ?_
        refine j_iload_n hJ dX1_residue_59 rfl ?_
        refine j_iload hJ dX1_residue_60 rfl ?_
        refine j_callV hJ (kX1_get l D cI a _ _ _ ⟨by omega, by omega⟩ ⟨by omega, by omega⟩) rfl gX1_residue_X1_get rfl hdX1_get rfl ⟨Nat.le_of_ble_eq_true rfl, Nat.le_of_ble_eq_true rfl⟩ (Nat.le_of_ble_eq_true rfl) (Nat.le_of_ble_eq_true rfl) rfl rfl dX1_residue_62 (fun _ _ h => False.elim h) (fun r62 Z62 hp62 => ?_)
        obtain ⟨rfl, rfl⟩ := hp62
        rw [e1]
        refine j_i2l hJ ⟨by omega, by omega⟩ dX1_residue_65 ?_
        refine j_ladd hJ dX1_residue_66 ?_
        refine j_iload_n hJ dX1_residue_67 rfl ?_
        refine j_i2l hJ ⟨by omega, by omega⟩ dX1_residue_68 ?_
        refine j_lrem hJ (by omega) ⟨by omega, by omega⟩ ⟨by omega, by omega⟩ (by omega) dX1_residue_69 ?_
        refine j_lstore_n hJ (by decide) dX1_residue_70 ?_
        refine j_iinc hJ (by decide) dX1_residue_71 rfl ?_
        refine j_goto (tgt := 48) hJ (by decide) dX1_residue_74 ?_
        rw [stp]
        exact j_re hJ (ih (by omega)) ⟨rfl, rfl, rfl, rfl, by show some (Value.int (iZ (((n + 1 : Nat) : Int) - 1 + -1))) = _; rw [show ((n + 1 : Nat) : Int) - 1 + -1 = (n : Int) - 1 by omega], trivial⟩
  refine j_aload_n hJ dX1_residue_0 rfl ?_
  refine j_iload_n hJ dX1_residue_1 rfl ?_
  refine j_callS hJ (kX1_isRegister l D _ ⟨by omega, by omega⟩) rfl gX1_residue_X1_isRegister rfl hsX1_isRegister rfl ⟨Nat.le_of_ble_eq_true rfl, Nat.le_of_ble_eq_true rfl⟩ (Nat.le_of_ble_eq_true rfl) (Nat.le_of_ble_eq_true rfl) dX1_residue_2 (fun _ h => False.elim h) (fun r2 hp2 => ?_)
  subst hp2
  refine j_if_eq (tgt := 12) hJ (by decide) ⟨by omega, by omega⟩ dX1_residue_5 (fun h5 => ?_) (fun h5 => ?_)
  · rw [if_neg (by omega)] at hJ
    refine j_iconst hJ dX1_residue_12 ?_
    refine m_putcode hJ hin (by decide +kernel) dX1_residue_13 ?_
    refine j_aload_n hJ dX1_residue_16 rfl ?_
    refine m_code hJ hin (by decide +kernel) dX1_residue_17 ?_
    rw [zup_eq]
    refine j_if_le (tgt := 25) hJ (by decide) ⟨by omega, by omega⟩ dX1_residue_20 (fun h20 => absurd h20 (by decide)) (fun h20 => ?_)
    refine j_iconst hJ dX1_residue_23 ?_
    exact j_iret hJ (Nat.le_of_ble_eq_true rfl) (⟨rfl, zup_eq _ _ _ _, hI.code 1⟩) dX1_residue_24
  · rw [if_pos ⟨by omega, by omega⟩] at hJ
    try rw [hT]
    refine j_iconst hJ dX1_residue_8 ?_
    refine j_goto (tgt := 13) hJ (by decide) dX1_residue_9 ?_
    refine m_putcode hJ hin (by decide +kernel) dX1_residue_13 ?_
    refine j_aload_n hJ dX1_residue_16 rfl ?_
    refine m_code hJ hin (by decide +kernel) dX1_residue_17 ?_
    rw [zup_eq]
    refine j_if_le (tgt := 25) hJ (by decide) ⟨by omega, by omega⟩ dX1_residue_20 (fun h20 => ?_) (fun h20 => absurd h20 (by decide))
    refine j_iload_n hJ dX1_residue_25 rfl ?_
    refine j_iconst hJ dX1_residue_26 ?_
    refine j_icmp_ge (tgt := 37) hJ (by decide) ⟨by omega, by omega⟩ ⟨by omega, by omega⟩ dX1_residue_27 (fun h27 => ?_) (fun h27 => ?_)
    · rw [if_neg (by omega)] at hJ
      rw [hT]
      refine j_lconst (z := 0) hJ (by decide) dX1_residue_37 ?_
      refine j_lstore_n hJ (by decide) dX1_residue_38 ?_
      refine j_aload_n hJ dX1_residue_39 rfl ?_
      refine j_iload_n hJ dX1_residue_40 rfl ?_
      refine j_callV hJ (kX1_length l D cI a _ _ ⟨by omega, by omega⟩ (hc.1 r.toNat (by omega))) rfl gX1_residue_X1_length rfl hdX1_length rfl ⟨Nat.le_of_ble_eq_true rfl, Nat.le_of_ble_eq_true rfl⟩ (Nat.le_of_ble_eq_true rfl) (Nat.le_of_ble_eq_true rfl) rfl rfl dX1_residue_41 (fun _ _ h => False.elim h) (fun r41 Z41 hp41 => ?_)
      obtain ⟨rfl, rfl⟩ := hp41
      refine j_iconst hJ dX1_residue_44 ?_
      refine j_isub hJ dX1_residue_45 ?_
      refine j_istore hJ (by decide) dX1_residue_46 ?_
      have hl := lenr_le (T (r.toNat + 2)) 2100
      have h9 := loop ⟨by omega, by omega⟩ (by omega) hJ (lenr (T (r.toNat + 2)) 2100) hl
      rw [Int.ediv_eq_zero_of_lt (vs_nonneg (by decide) (hc.1 r.toNat (by omega))) (lenr_lt (by decide) (hc.1 r.toNat (by omega))), Int.zero_emod] at h9
      exact j_re hJ h9 ⟨rfl, rfl, rfl, rfl, rfl, trivial⟩
    · rw [if_pos (by omega)] at hJ
      refine j_aload_n hJ dX1_residue_30 rfl ?_
      refine j_iconst hJ dX1_residue_31 ?_
      refine m_putcode hJ hin (by decide +kernel) dX1_residue_32 ?_
      refine j_iconst hJ dX1_residue_35 ?_
      exact j_iret hJ (Nat.le_of_ble_eq_true rfl) (⟨rfl, zup_eq _ _ _ _, (hI.code 0).code 2⟩) dX1_residue_36
end M9
end
section
section M10
variable (l : Launch) (D : va_G) (cI : ClassId) (a : Nat → Nat) (Z : ZZ)
set_option maxRecDepth 20000 in
theorem kX1_multiply (g : Nat → Int) (hI : MI Z g) (r i j : Int) (h0 : i32 r) (h1 : i32 i) (h2 : i32 j) : Ct l D (tM cI) (wM cI a) yX1_multiply wsX1_multiply 3 0 69 [.ref (a 0), .int (iZ r), .int (iZ i), .int (iZ j)] Z (fun v Z' => v = none ∧ Z' 0 0 = (oMul g r i j).1 ∧ MI Z' (oMul g r i j).2) nX := by
  refine Ct.of (cc := cX1_multiply) (maxL := 11) (ret := none) rfl (by decide) rfl (Nat.le_of_ble_eq_true rfl) (fun J hJ => ?_)
  have hin : ∀ w ∈ u_ws RX1 TX1 3, w ∈ wsX1_multiply := by decide +kernel
  unfold oMul at hJ
  by_cases hrg : isRg r ∧ isRg i ∧ isRg j
  · rw [if_pos hrg] at hJ
    obtain ⟨hr, hi, hj⟩ := hrg
    obtain ⟨m1, m2, m3, m4, m5, m6, m7⟩ := mtk_MI hI (i := i.toNat) (j := j.toNat) (by omega) (by omega)
    obtain ⟨t1, t2, t3, t4⟩ := mtk_two hI (i := i.toNat) (j := j.toNat) (by omega) (by omega)
    have g1 := hI.2 i.toNat (by omega)
    have g2 := hI.2 j.toNat (by omega)
    have u1 := sg_mul (g i.toNat)
    have u2 := sg_mul (g j.toNat)
    have s1 := sg_cases (g i.toNat)
    have s2 := sg_cases (g j.toNat)
    generalize hT : mtk Z i.toNat j.toNat = T at m1 m2 m3 m4 m5 m6 m7 t1 t2 t3 t4
    have l1 := lenr_le (T 16) 2100
    have l2 := lenr_le (T 17) 2100
    have n1 : lenr (T 16) 2100 ≤ 1024 := (lenr_iff (B := 65536) (by decide) t1).mpr (by rw [t3]; exact g1.2.2)
    have n2 : lenr (T 17) 2100 ≤ 1024 := (lenr_iff (B := 65536) (by decide) t2).mpr (by rw [t4]; exact g2.2.2)
    have z1 := lenr_zero (T 16) 2100
    have z2 := lenr_zero (T 17) 2100
    have v1 := vs_len 65536 (T 16) 2100
    have v2 := vs_len 65536 (T 17) 2100
    have b1 := lenr_lt (B := 65536) (by decide) t1
    have b2 := lenr_lt (B := 65536) (by decide) t2
    generalize hn : lenr (T 16) 2100 = n at l1 n1 z1 v1 b1
    generalize hm : lenr (T 17) 2100 = m at l2 n2 z2 v2 b2
    have hcol : vs 65536 (fun q => cv (T 16) (T 17) q (q + 1)) (n + m) = vs 65536 (T 16) 2100 * vs 65536 (T 17) 2100 := by
      have e := vs_conv 65536 (T 16) (T 17) (m := m) (N := n + m) (fun q a1 a2 => z2 q a1 (by omega)) n (Nat.le_refl _)
      rw [v1, v2, ← e]
      refine vs_congr (fun q hq => ?_)
      show cv (T 16) (T 17) q (q + 1) = cv (T 16) (T 17) q (min n (q + 1))
      rcases Nat.lt_or_ge n (q + 1) with w | w
      · rw [Nat.min_eq_left (by omega)]
        exact cv_tail (by omega) (fun y a1 a2 => z1 y a1 (by omega))
      · rw [Nat.min_eq_right w]
    have loop : ∀ (t k : Nat) (h : Nat → Int) (c : Int), k + t = n + m → dgs 65536 k h → (0 ≤ c ∧ c < 17592186044416) → vs 65536 h k + c * 65536 ^ k = vs 65536 (fun q => cv (T 16) (T 17) q (q + 1)) k → J (zrw T 14 k h) 0 33 [(0, .ref (a 0)), (1, .int (iZ r)), (4, .int (iZ n)), (5, .int (iZ m)), (6, .long (lZ c)), (8, .int (iZ k))] [] := by
      intro t
      induction t with
      | zero =>
        intro k h c hk hd hc hv
        have hk2 : k = n + m := by omega
        subst hk2
        have hnn := vs_nonneg (B := 65536) (by decide) hd
        have hpp := pw_pos (B := 65536) (by decide) (n + m)
        have q1 := vs_nonneg (B := 65536) (by decide) t1
        have q2 := vs_nonneg (B := 65536) (by decide) t2
        have hlt : vs 65536 (T 16) 2100 * vs 65536 (T 17) 2100 < 65536 ^ (n + m) := by
          rw [Int.pow_add]
          have p1 := Int.mul_le_mul_of_nonneg_right (Int.le_of_lt b1) q2
          have p2 := Int.mul_lt_mul_of_pos_left b2 (pw_pos (B := 65536) (by decide) n)
          omega
        have hc0 : c = 0 := by
          rcases Int.lt_or_le 0 c with q | q
          · have := Int.mul_le_mul_of_nonneg_right (show 1 ≤ c from q) (Int.le_of_lt hpp)
            omega
          · omega
        rw [hc0, hcol, t3, t4] at hv
        have ez : zrw T 14 (n + m) h 1 = T 1 := zrw_off (by omega)
        have hself := zrw_self (Z := T) (j := 14) (n := n + m) (N := 2100) (f := h) (by omega)
        have hdf : dgs 65536 2100 (zrw T 14 (n + m) h 14) := dgs_zrw (m1.1 12 (by omega)) hd
        have hvf : vs 65536 (zrw T 14 (n + m) h 14) 2100 = ((g i.toNat).natAbs : Int) * ((g j.toNat).natAbs : Int) := by
          rw [vs_top (m := n + m) (by omega) (fun q a1 a2 => by rw [zrw_ge a1]; exact m7 q a2), vs_congr (g := h) (fun q hq => zrw_in hq)]
          omega
        have hz : (g i.toNat).sign * (g j.toNat).sign * vs 65536 (zrw T 14 (n + m) h 14) 2100 = g i.toNat * g j.toNat := by
          rw [hvf, ← u1, ← u2, u1, u2]
          grind
        have hsg : (g i.toNat).sign * (g j.toNat).sign = 0 ∨ (g i.toNat).sign * (g j.toNat).sign = 1 ∨ (g i.toNat).sign * (g j.toNat).sign = -1 := by
          rcases s1 with ⟨_, e1, _⟩ | ⟨_, e1, _⟩ | ⟨_, e1, _⟩ <;> rcases s2 with ⟨_, e2, _⟩ | ⟨_, e2, _⟩ | ⟨_, e2, _⟩ <;> rw [e1, e2] <;> decide
        have hs0 : (g i.toNat).sign * (g j.toNat).sign = 0 → vs 65536 (zrw T 14 (n + m) h 14) 2100 = 0 := by
          intro q
          rw [hvf]
          rcases Int.mul_eq_zero.mp q with w | w
          · rw [show ((g i.toNat).natAbs : Int) = 0 by omega]; omega
          · rw [show ((g j.toNat).natAbs : Int) = 0 by omega]; omega
        obtain ⟨w1, w2, w3, w4⟩ := sum_MI m1 m2 hdf hsg hz hs0
        rw [← hself] at w1 w2 w3 w4
        refine j_iload hJ dX1_multiply_33 rfl ?_
        refine j_iload hJ dX1_multiply_35 rfl ?_
        refine j_iload hJ dX1_multiply_37 rfl ?_
        refine j_iadd hJ dX1_multiply_39 ?_
        refine j_icmp_ge (tgt := 142) hJ (by decide) ⟨by omega, by omega⟩ ⟨by omega, by omega⟩ dX1_multiply_40 (fun h40 => ?_) (fun h40 => ?_)
        · refine j_aload_n hJ dX1_multiply_142 rfl ?_
          refine m_sign hJ hin (by decide +kernel) dX1_multiply_143 ?_
          refine j_bipush hJ (by decide) dX1_multiply_146 ?_
          refine j_aload_n hJ dX1_multiply_148 rfl ?_
          refine m_sign hJ hin (by decide +kernel) dX1_multiply_149 ?_
          refine j_bipush hJ (by decide) dX1_multiply_152 ?_
          refine m_ald_sg hJ ⟨by omega, by omega⟩ dX1_multiply_154 ?_
          refine j_aload_n hJ dX1_multiply_155 rfl ?_
          refine m_sign hJ hin (by decide +kernel) dX1_multiply_156 ?_
          refine j_bipush hJ (by decide) dX1_multiply_159 ?_
          refine m_ald_sg hJ ⟨by omega, by omega⟩ dX1_multiply_161 ?_
          rw [ez, show (14 : Int).toNat = 14 from rfl, show (15 : Int).toNat = 15 from rfl, m4, m6, g1.2.1, g2.2.1]
          refine j_imul hJ dX1_multiply_162 ?_
          refine m_ast_sg hJ ⟨by omega, by omega⟩ dX1_multiply_163 ?_
          rw [show (12 : Int).toNat = 12 from rfl]
          refine j_aload_n hJ dX1_multiply_164 rfl ?_
          refine j_iload_n hJ dX1_multiply_165 rfl ?_
          refine j_callV hJ (kX1_give l D cI a _ _ ⟨by omega, by omega⟩ (w1.1 12 (by omega))) rfl gX1_multiply_X1_give rfl hdX1_give rfl ⟨Nat.le_of_ble_eq_true rfl, Nat.le_of_ble_eq_true rfl⟩ (Nat.le_of_ble_eq_true rfl) (Nat.le_of_ble_eq_true rfl) rfl rfl dX1_multiply_166 (fun _ _ h => False.elim h) (fun r166 Z166 hp166 => ?_)
          obtain ⟨rfl, hg⟩ := hp166
          exact j_vret hJ (Nat.le_of_ble_eq_true rfl) (⟨rfl, give_MI w1 hr w3 w4 w2 hg⟩) dX1_multiply_169
        · omega
      | succ t ih =>
        intro k h c hk hd hc hv
        have ea : zrw T 14 k h 16 = T 16 := zrw_off (by omega)
        have eb : zrw T 14 k h 17 = T 17 := zrw_off (by omega)
        have e3 : ((k : Nat) : Int).toNat = k := by omega
        have cb := cv_bound t1 t2 (k := k) (by omega) (t := k + 1) (Nat.le_refl _)
        have exit : J (zrw T 14 k h) 0 114 [(0, .ref (a 0)), (1, .int (iZ r)), (4, .int (iZ n)), (5, .int (iZ m)), (6, .long (lZ (c + cv (T 16) (T 17) k (k + 1)))), (8, .int (iZ k))] [] := by
          generalize hy : c + cv (T 16) (T 17) k (k + 1) = y
          have hy2 : 0 ≤ y ∧ y < 1152921504606846976 := by omega
          have hy3 : 0 ≤ y / 65536 ∧ y / 65536 < 17592186044416 := by omega
          refine j_aload_n hJ dX1_multiply_114 rfl ?_
          refine j_bipush hJ (by decide) dX1_multiply_115 ?_
          refine j_iload hJ dX1_multiply_117 rfl ?_
          refine j_lload hJ dX1_multiply_119 rfl ?_
          refine j_ldc2 (v := 65535) (z := 65535) hJ (by decide) (by decide +kernel) dX1_multiply_121 ?_
          refine j_land hJ (lZ_low16 _) dX1_multiply_124 ?_
          refine j_l2i hJ dX1_multiply_125 ?_
          refine j_callV hJ (kX1_put l D cI a _ _ _ _ ⟨by omega, by omega⟩ ⟨by omega, by omega⟩) rfl gX1_multiply_X1_put rfl hdX1_put rfl ⟨Nat.le_of_ble_eq_true rfl, Nat.le_of_ble_eq_true rfl⟩ (Nat.le_of_ble_eq_true rfl) (Nat.le_of_ble_eq_true rfl) rfl rfl dX1_multiply_126 (fun _ _ h => False.elim h) (fun r126 Z126 hp126 => ?_)
          obtain ⟨rfl, rfl⟩ := hp126
          rw [show (12 : Int).toNat + 2 = 14 from rfl, e3, zrw_push]
          refine j_lload hJ dX1_multiply_129 rfl ?_
          refine j_bipush hJ (by decide) dX1_multiply_131 ?_
          refine j_lshr (n := 16) hJ (by decide) ⟨by omega, by omega⟩ dX1_multiply_133 ?_
          refine j_lstore hJ (by decide) dX1_multiply_134 ?_
          refine j_iinc hJ (by decide) dX1_multiply_136 rfl ?_
          refine j_goto (tgt := 33) hJ (by decide) dX1_multiply_139 ?_
          refine j_re hJ (ih (k + 1) _ (y / 65536) (by omega) (dgs_push hd ⟨by omega, by omega⟩) hy3 ?_) ⟨rfl, rfl, rfl, rfl, rfl, rfl, trivial⟩
          rw [vs_push, vs_s, pw_s]
          have hw : y % 65536 = y - 65536 * (y / 65536) := by omega
          rw [hw]
          grind
        have inner : ∀ (u x : Nat), x + u = k + 1 → k + 1 ≤ x + m → J (zrw T 14 k h) 0 67 [(0, .ref (a 0)), (1, .int (iZ r)), (4, .int (iZ n)), (5, .int (iZ m)), (6, .long (lZ (c + cv (T 16) (T 17) k x))), (8, .int (iZ k)), (10, .int (iZ x))] [] := by
          intro u
          induction u with
          | zero =>
            intro x hx hxm
            have hx2 : x = k + 1 := by omega
            subst hx2
            refine j_iload hJ dX1_multiply_67 rfl ?_
            refine j_iload hJ dX1_multiply_69 rfl ?_
            refine j_icmp_gt (tgt := 114) hJ (by decide) ⟨by omega, by omega⟩ ⟨by omega, by omega⟩ dX1_multiply_71 (fun h71 => ?_) (fun h71 => ?_)
            · exact j_re hJ exit ⟨rfl, rfl, rfl, rfl, rfl, rfl, trivial⟩
            · omega
          | succ u ihu =>
            intro x hx hxm
            have q1 := t1 x (by omega)
            have q2 := t2 (k - x) (by omega)
            refine j_iload hJ dX1_multiply_67 rfl ?_
            refine j_iload hJ dX1_multiply_69 rfl ?_
            refine j_icmp_gt (tgt := 114) hJ (by decide) ⟨by omega, by omega⟩ ⟨by omega, by omega⟩ dX1_multiply_71 (fun h => absurd h (by omega)) (fun _ => ?_)
            refine j_iload hJ dX1_multiply_74 rfl ?_
            refine j_iload hJ dX1_multiply_76 rfl ?_
            refine j_icmp_ge (tgt := 114) hJ (by decide) ⟨by omega, by omega⟩ ⟨by omega, by omega⟩ dX1_multiply_78 (fun h78 => ?_) (fun h78 => ?_)
            · have e9 : cv (T 16) (T 17) k (k + 1) = cv (T 16) (T 17) k x := cv_tail (by omega) (fun y a1 a2 => z1 y (by omega) (by omega))
              rw [← e9]
              exact j_re hJ exit ⟨rfl, rfl, rfl, rfl, rfl, rfl, trivial⟩
            · refine j_lload hJ dX1_multiply_81 rfl ?_
              refine j_aload_n hJ dX1_multiply_83 rfl ?_
              refine j_bipush hJ (by decide) dX1_multiply_84 ?_
              refine j_iload hJ dX1_multiply_86 rfl ?_
              refine j_callV hJ (kX1_get l D cI a _ _ _ ⟨by omega, by omega⟩ ⟨by omega, by omega⟩) rfl gX1_multiply_X1_get rfl hdX1_get rfl ⟨Nat.le_of_ble_eq_true rfl, Nat.le_of_ble_eq_true rfl⟩ (Nat.le_of_ble_eq_true rfl) (Nat.le_of_ble_eq_true rfl) rfl rfl dX1_multiply_88 (fun _ _ h => False.elim h) (fun r88 Z88 hp88 => ?_)
              obtain ⟨rfl, rfl⟩ := hp88
              rw [show (14 : Int).toNat + 2 = 16 from rfl, show ((x : Nat) : Int).toNat = x by omega, ea]
              refine j_i2l hJ ⟨by omega, by omega⟩ dX1_multiply_91 ?_
              refine j_aload_n hJ dX1_multiply_92 rfl ?_
              refine j_bipush hJ (by decide) dX1_multiply_93 ?_
              refine j_iload hJ dX1_multiply_95 rfl ?_
              refine j_iload hJ dX1_multiply_97 rfl ?_
              refine j_isub hJ dX1_multiply_99 ?_
              refine j_callV hJ (kX1_get l D cI a _ _ _ ⟨by omega, by omega⟩ ⟨by omega, by omega⟩) rfl gX1_multiply_X1_get rfl hdX1_get rfl ⟨Nat.le_of_ble_eq_true rfl, Nat.le_of_ble_eq_true rfl⟩ (Nat.le_of_ble_eq_true rfl) (Nat.le_of_ble_eq_true rfl) rfl rfl dX1_multiply_100 (fun _ _ h => False.elim h) (fun r100 Z100 hp100 => ?_)
              obtain ⟨rfl, rfl⟩ := hp100
              rw [show (15 : Int).toNat + 2 = 17 from rfl, show (((k : Nat) : Int) - ((x : Nat) : Int)).toNat = k - x by omega, eb]
              refine j_i2l hJ ⟨by omega, by omega⟩ dX1_multiply_103 ?_
              refine j_lmul hJ dX1_multiply_104 ?_
              refine j_ladd hJ dX1_multiply_105 ?_
              refine j_lstore hJ (by decide) dX1_multiply_106 ?_
              refine j_iinc hJ (by decide) dX1_multiply_108 rfl ?_
              refine j_goto (tgt := 67) hJ (by decide) dX1_multiply_111 ?_
              refine j_re hJ (ihu (x + 1) (by omega) (by omega)) ⟨rfl, rfl, rfl, rfl, ?_, rfl, rfl, trivial⟩
              rw [cv_s]
              show some (Value.long (lZ (c + cv (T 16) (T 17) k x + T 16 x * T 17 (k - x)))) = _
              rw [Int.add_assoc]
        refine j_iload hJ dX1_multiply_33 rfl ?_
        refine j_iload hJ dX1_multiply_35 rfl ?_
        refine j_iload hJ dX1_multiply_37 rfl ?_
        refine j_iadd hJ dX1_multiply_39 ?_
        refine j_icmp_ge (tgt := 142) hJ (by decide) ⟨by omega, by omega⟩ ⟨by omega, by omega⟩ dX1_multiply_40 (fun h40 => ?_) (fun h40 => ?_)
        · omega
        · refine j_iload hJ dX1_multiply_43 rfl ?_
          refine j_iload hJ dX1_multiply_45 rfl ?_
          refine j_icmp_ge (tgt := 54) hJ (by decide) ⟨by omega, by omega⟩ ⟨by omega, by omega⟩ dX1_multiply_47 (fun h47 => ?_) (fun h47 => ?_)
          · refine j_iload hJ dX1_multiply_54 rfl ?_
            refine j_iload hJ dX1_multiply_56 rfl ?_
            refine j_isub hJ dX1_multiply_58 ?_
            refine j_iconst hJ dX1_multiply_59 ?_
            refine j_iadd hJ dX1_multiply_60 ?_
            refine j_istore hJ (by decide) dX1_multiply_61 ?_
            refine j_iload hJ dX1_multiply_63 rfl ?_
            refine j_istore hJ (by decide) dX1_multiply_65 ?_
            first | (have h9 := inner (k + 1) 0 (by omega) (by omega); exact j_re hJ h9 ⟨rfl, rfl, rfl, rfl, by show some (Value.long (lZ c)) = some (Value.long (lZ (c + 0))); rw [Int.add_zero], rfl, rfl, trivial⟩) | (have h9 := inner m (k + 1 - m) (by omega) (by omega); rw [cv_zero (t := k + 1 - m) (fun y hy => by rw [z2 (k - y) (by omega) (by omega)]; omega), Int.add_zero] at h9; exact j_re hJ h9 ⟨rfl, rfl, rfl, rfl, rfl, rfl, by show some (Value.int (iZ (((k : Nat) : Int) - ((m : Nat) : Int) + 1))) = _; rw [show ((k : Nat) : Int) - ((m : Nat) : Int) + 1 = ((k + 1 - m : Nat) : Int) by omega], trivial⟩)
          · refine j_iconst hJ dX1_multiply_50 ?_
            refine j_goto (tgt := 61) hJ (by decide) dX1_multiply_51 ?_
            refine j_istore hJ (by decide) dX1_multiply_61 ?_
            refine j_iload hJ dX1_multiply_63 rfl ?_
            refine j_istore hJ (by decide) dX1_multiply_65 ?_
            first | (have h9 := inner (k + 1) 0 (by omega) (by omega); exact j_re hJ h9 ⟨rfl, rfl, rfl, rfl, by show some (Value.long (lZ c)) = some (Value.long (lZ (c + 0))); rw [Int.add_zero], rfl, rfl, trivial⟩) | (have h9 := inner m (k + 1 - m) (by omega) (by omega); rw [cv_zero (t := k + 1 - m) (fun y hy => by rw [z2 (k - y) (by omega) (by omega)]; omega), Int.add_zero] at h9; exact j_re hJ h9 ⟨rfl, rfl, rfl, rfl, rfl, rfl, by show some (Value.int (iZ (((k : Nat) : Int) - ((m : Nat) : Int) + 1))) = _; rw [show ((k : Nat) : Int) - ((m : Nat) : Int) + 1 = ((k + 1 - m : Nat) : Int) by omega], trivial⟩)
    have d14 : dgs 65536 2100 (T ((14 : Int).toNat + 2)) := t1
    have d15 : dgs 65536 2100 (T ((15 : Int).toNat + 2)) := t2
    refine j_aload_n hJ dX1_multiply_0 rfl ?_
    refine j_iload_n hJ dX1_multiply_1 rfl ?_
    refine j_iload_n hJ dX1_multiply_2 rfl ?_
    refine j_iload_n hJ dX1_multiply_3 rfl ?_
    refine j_callV hJ (kX1_take l D cI a Z r i j h0 h1 h2) rfl gX1_multiply_X1_take rfl hdX1_take rfl ⟨Nat.le_of_ble_eq_true rfl, Nat.le_of_ble_eq_true rfl⟩ (Nat.le_of_ble_eq_true rfl) (Nat.le_of_ble_eq_true rfl) rfl rfl dX1_multiply_4 (fun _ _ h => False.elim h) (fun r4 Z4 hp4 => ?_)
    rcases hp4 with ⟨hn, _, _⟩ | ⟨_, rfl, rfl⟩
    · exact absurd ⟨hr, hi, hj⟩ hn
    rw [hT]
    refine j_if_ne (tgt := 11) hJ (by decide) ⟨by omega, by omega⟩ dX1_multiply_7 (fun _ => ?_) (fun h => absurd h (by decide))
    refine j_aload_n hJ dX1_multiply_11 rfl ?_
    refine j_bipush hJ (by decide) dX1_multiply_12 ?_
    refine j_callV hJ (kX1_length l D cI a _ _ ⟨by omega, by omega⟩ d14) rfl gX1_multiply_X1_length rfl hdX1_length rfl ⟨Nat.le_of_ble_eq_true rfl, Nat.le_of_ble_eq_true rfl⟩ (Nat.le_of_ble_eq_true rfl) (Nat.le_of_ble_eq_true rfl) rfl rfl dX1_multiply_14 (fun _ _ h => False.elim h) (fun r14 Z14 hp14 => ?_)
    obtain ⟨rfl, rfl⟩ := hp14
    rw [show (14 : Int).toNat + 2 = 16 from rfl, hn]
    refine j_istore hJ (by decide) dX1_multiply_17 ?_
    refine j_aload_n hJ dX1_multiply_19 rfl ?_
    refine j_bipush hJ (by decide) dX1_multiply_20 ?_
    refine j_callV hJ (kX1_length l D cI a _ _ ⟨by omega, by omega⟩ d15) rfl gX1_multiply_X1_length rfl hdX1_length rfl ⟨Nat.le_of_ble_eq_true rfl, Nat.le_of_ble_eq_true rfl⟩ (Nat.le_of_ble_eq_true rfl) (Nat.le_of_ble_eq_true rfl) rfl rfl dX1_multiply_22 (fun _ _ h => False.elim h) (fun r22 Z22 hp22 => ?_)
    obtain ⟨rfl, rfl⟩ := hp22
    rw [show (15 : Int).toNat + 2 = 17 from rfl, hm]
    refine j_istore hJ (by decide) dX1_multiply_25 ?_
    refine j_lconst (z := 0) hJ (by decide) dX1_multiply_27 ?_
    refine j_lstore hJ (by decide) dX1_multiply_28 ?_
    refine j_iconst hJ dX1_multiply_30 ?_
    refine j_istore hJ (by decide) dX1_multiply_31 ?_
    have h9 := loop (n + m) 0 (fun _ => 0) 0 (by omega) (dgs_0 _ _) ⟨by omega, by omega⟩ (by show (0 : Int) + 0 * 65536 ^ 0 = 0; decide)
    rw [zrw_0] at h9
    exact j_re hJ h9 ⟨rfl, rfl, rfl, rfl, rfl, rfl, trivial⟩
  · rw [if_neg hrg] at hJ
    refine j_aload_n hJ dX1_multiply_0 rfl ?_
    refine j_iload_n hJ dX1_multiply_1 rfl ?_
    refine j_iload_n hJ dX1_multiply_2 rfl ?_
    refine j_iload_n hJ dX1_multiply_3 rfl ?_
    refine j_callV hJ (kX1_take l D cI a Z r i j h0 h1 h2) rfl gX1_multiply_X1_take rfl hdX1_take rfl ⟨Nat.le_of_ble_eq_true rfl, Nat.le_of_ble_eq_true rfl⟩ (Nat.le_of_ble_eq_true rfl) (Nat.le_of_ble_eq_true rfl) rfl rfl dX1_multiply_4 (fun _ _ h => False.elim h) (fun r4 Z4 hp4 => ?_)
    obtain ⟨_, rfl, rfl⟩ := hp4.resolve_right (fun h => hrg h.1)
    refine j_if_ne (tgt := 11) hJ (by decide) ⟨by omega, by omega⟩ dX1_multiply_7 (fun h => absurd rfl h) (fun _ => ?_)
    exact j_vret hJ (Nat.le_of_ble_eq_true rfl) (⟨rfl, zup_eq _ _ _ _, hI.code 1⟩) dX1_multiply_10
end M10
end
section
theorem ite01 (P : Prop) [Decidable P] : (P ∧ (if P then (1 : Int) else 0) = 1) ∨ (¬ P ∧ (if P then (1 : Int) else 0) = 0) := by
  by_cases h : P
  · exact Or.inl ⟨h, if_pos h⟩
  · exact Or.inr ⟨h, if_neg h⟩
section M11
variable (l : Launch) (D : va_G) (cI : ClassId) (a : Nat → Nat) (Z : ZZ)
/-- the quotient and the rest, put back -/
theorem div_fin {S : ZZ} {g : Nat → Int} (h : MI S g) {q t i j : Nat} (hq : q < 12) (ht : t < 12) (hqt : q ≠ t) (hi : i < 12) (hj : j < 12) (hb : g j ≠ 0) (h14 : vs 65536 (S 14) 2100 = ((g i).natAbs : Int) / ((g j).natAbs : Int)) (h15 : vs 65536 (S 15) 2100 = ((g i).natAbs : Int) % ((g j).natAbs : Int))
    (s1 : S 1 12 = if vs 65536 (S 14) 2100 = 0 then 0 else (g i).sign * (g j).sign) (s2 : S 1 13 = if vs 65536 (S 15) 2100 = 0 then 0 else (g i).sign) :
    MI (mmov (mmov S q 12) t 13) (gset (gset g q ((g i).tdiv (g j))) t ((g i).tmod (g j))) ∧ mmov (mmov S q 12) t 13 0 0 = S 0 0 := by
  have c1 := sg_cases (g i)
  have c2 := sg_cases (g j)
  have d1 := tdiv_sg (g i) (g j)
  have d2 := tmod_sg (z := g i) hb
  have l1 := (h.2 i hi).2.2
  have l2 := (h.2 j hj).2.2
  have hbp : 0 < ((g j).natAbs : Int) := by omega
  have b1 : 0 ≤ ((g i).natAbs : Int) / ((g j).natAbs : Int) := Int.ediv_nonneg (by omega) (by omega)
  have b2 : ((g i).natAbs : Int) / ((g j).natAbs : Int) ≤ ((g i).natAbs : Int) := Int.ediv_le_self _ (by omega)
  have b3 := Int.emod_nonneg ((g i).natAbs : Int) (Int.ne_of_gt hbp)
  have b4 := Int.emod_lt_of_pos ((g i).natAbs : Int) hbp
  have b5 : ((g i).natAbs : Int) = 0 → ((g i).natAbs : Int) / ((g j).natAbs : Int) = 0 := fun e => by rw [e, Int.zero_ediv]
  have b6 : ((g i).natAbs : Int) = 0 → ((g i).natAbs : Int) % ((g j).natAbs : Int) = 0 := fun e => by rw [e, Int.zero_emod]
  generalize ((g i).natAbs : Int) / ((g j).natAbs : Int) = Q at *
  generalize ((g i).natAbs : Int) % ((g j).natAbs : Int) = R at *
  have e1 : (((g i).tdiv (g j)).natAbs : Int) = Q ∧ S 1 12 = ((g i).tdiv (g j)).sign := by
    rw [s1, h14, d1]
    have c3 := sg_cases ((g i).sign * (g j).sign * Q)
    rcases c1 with ⟨_, f1, _⟩ | ⟨_, f1, _⟩ | ⟨_, f1, _⟩ <;> rcases c2 with ⟨_, f2, _⟩ | ⟨_, f2, _⟩ | ⟨_, f2, _⟩ <;> rw [f1, f2] at c3 ⊢ <;> split <;> omega
  have e2 : (((g i).tmod (g j)).natAbs : Int) = R ∧ S 1 13 = ((g i).tmod (g j)).sign := by
    rw [s2, h15, d2]
    have c3 := sg_cases ((g i).sign * R)
    rcases c1 with ⟨_, f1, _⟩ | ⟨_, f1, _⟩ | ⟨_, f1, _⟩ <;> rw [f1] at c3 ⊢ <;> split <;> omega
  have m1 : MI (mmov S q 12) (gset g q ((g i).tdiv (g j))) := MI.reg h hq (h.1 12 (by omega)) (by rw [e1.1]; exact h14) e1.2 (by rw [e1.1]; omega)
  have f15 : mmov S q 12 15 = S 15 := mmov_off (by omega) (by omega)
  refine ⟨MI.reg m1 ht (m1.1 13 (by omega)) ?_ ?_ (by rw [e2.1]; omega), ?_⟩
  · rw [f15, e2.1]; exact h15
  · rw [mmov_sgo (by omega)]; exact e2.2
  · rw [mmov_off (by omega) (by omega), mmov_off (by omega) (by omega)]
set_option maxRecDepth 20000 in
theorem kX1_divide (g : Nat → Int) (hI : MI Z g) (q t i j : Int) (h0 : i32 q) (h1 : i32 t) (h2 : i32 i) (h3 : i32 j) : Ct l D (tM cI) (wM cI a) yX1_divide wsX1_divide 3 0 68 [.ref (a 0), .int (iZ q), .int (iZ t), .int (iZ i), .int (iZ j)] Z (fun v Z' => v = none ∧ Z' 0 0 = (oDiv g q t i j).1 ∧ MI Z' (oDiv g q t i j).2) nX := by
  refine Ct.of (cc := cX1_divide) (maxL := 7) (ret := none) rfl (by decide) rfl (Nat.le_of_ble_eq_true rfl) (fun J hJ => ?_)
  have hin : ∀ w ∈ u_ws RX1 TX1 3, w ∈ wsX1_divide := by decide +kernel
  unfold oDiv at hJ
  have p0 := isR_spec q
  have p1 := isR_spec t
  have p2 := isR_spec i
  have p3 := isR_spec j
  have main : isRg q → isRg t → isRg i → isRg j → q ≠ t → g j.toNat ≠ 0 → IsJ l D (tM cI) (wM cI a) cX1_divide 7 wsX1_divide RX1 3 0 68 none (fun v Z' => v = none ∧ Z' 0 0 = 0 ∧ MI Z' (gset (gset g q.toNat ((g i.toNat).tdiv (g j.toNat))) t.toNat ((g i.toNat).tmod (g j.toNat)))) nX J → J (zup (zup Z 0 0 0) 0 0 0) 0 78 [(0, .ref (a 0)), (1, .int (iZ q)), (2, .int (iZ t)), (3, .int (iZ i)), (4, .int (iZ j))] [] := by
    intro hq ht hi hj hqt hb hJ
    clear p0 p1 p2 p3
    have hc := (hI.code 0).code 0
    have hc0 : zup (zup Z 0 0 0) 0 0 0 0 0 = 0 := zup_eq _ _ _ _
    generalize zup (zup Z 0 0 0) 0 0 0 = Y at hc hc0
    have m1 := hc.mov (j := 14) (i := i.toNat) (by omega) (by omega)
    have m2 := m1.mov (j := 15) (i := j.toNat) (by omega) (by omega)
    have zd : dgs 65536 2100 (fun _ => 0) := fun _ _ => ⟨by show (0 : Int) ≤ 0; decide, by show (0 : Int) < 65536; decide⟩
    have m3 := (m2.row (j := 12) (n := 2100) (by omega) zd).sgn (j := 12) (by omega) 0
    have m4 := (m3.row (j := 13) (n := 2100) (by omega) zd).sgn (j := 13) (by omega) 0
    have hT : mclr (mclr (mmov (mmov Y 14 i.toNat) 15 j.toNat) 12) 13 = zup (zrw (zup (zrw (zup (zrw (zup (zrw Y (14 + 2) 2100 (Y (i.toNat + 2))) 1 14 (Y 1 i.toNat)) (15 + 2) 2100 (zup (zrw Y (14 + 2) 2100 (Y (i.toNat + 2))) 1 14 (Y 1 i.toNat) (j.toNat + 2))) 1 15 (zup (zrw Y (14 + 2) 2100 (Y (i.toNat + 2))) 1 14 (Y 1 i.toNat) 1 j.toNat)) (12 + 2) 2100 (fun _ => 0)) 1 12 0) (13 + 2) 2100 (fun _ => 0)) 1 13 0 := rfl
    rw [← hT] at m4
    have t00 : mclr (mclr (mmov (mmov Y 14 i.toNat) 15 j.toNat) 12) 13 0 0 = 0 := by rw [mclr_off (by omega) (by omega), mclr_off (by omega) (by omega), mmov_off (by omega) (by omega), mmov_off (by omega) (by omega)]; exact hc0
    have t16 : ∀ k, k < 2100 → mclr (mclr (mmov (mmov Y 14 i.toNat) 15 j.toNat) 12) 13 16 k = Y (i.toNat + 2) k := fun k hk => by rw [mclr_off (by omega) (by omega), mclr_off (by omega) (by omega), mmov_off (by omega) (by omega), mmov_row hk]
    have t17 : ∀ k, k < 2100 → mclr (mclr (mmov (mmov Y 14 i.toNat) 15 j.toNat) 12) 13 17 k = Y (j.toNat + 2) k := fun k hk => by rw [mclr_off (by omega) (by omega), mclr_off (by omega) (by omega), mmov_row hk, mmov_off (by omega) (by omega)]
    have t14 : ∀ k, k < 2100 → mclr (mclr (mmov (mmov Y 14 i.toNat) 15 j.toNat) 12) 13 14 k = 0 := fun k hk => by rw [mclr_off (by omega) (by omega), mclr_row hk]
    have t15 : ∀ k, k < 2100 → mclr (mclr (mmov (mmov Y 14 i.toNat) 15 j.toNat) 12) 13 15 k = 0 := fun k hk => mclr_row hk
    have s14 : mclr (mclr (mmov (mmov Y 14 i.toNat) 15 j.toNat) 12) 13 1 14 = (g i.toNat).sign := by rw [mclr_sgo (by omega), mclr_sgo (by omega), mmov_sgo (by omega), mmov_sg]; exact (hc.2 i.toNat (by omega)).2.1
    have s15 : mclr (mclr (mmov (mmov Y 14 i.toNat) 15 j.toNat) 12) 13 1 15 = (g j.toNat).sign := by rw [mclr_sgo (by omega), mclr_sgo (by omega), mmov_sg, mmov_sgo (by omega)]; exact (hc.2 j.toNat (by omega)).2.1
    have v16 : vs 65536 (mclr (mclr (mmov (mmov Y 14 i.toNat) 15 j.toNat) 12) 13 16) 2100 = ((g i.toNat).natAbs : Int) := by rw [vs_congr t16]; exact (hc.2 i.toNat (by omega)).1
    have v17 : vs 65536 (mclr (mclr (mmov (mmov Y 14 i.toNat) 15 j.toNat) 12) 13 17) 2100 = ((g j.toNat).natAbs : Int) := by rw [vs_congr t17]; exact (hc.2 j.toNat (by omega)).1
    have d16 := m4.1 14 (by omega)
    have d17 := m4.1 15 (by omega)
    have d14 := m4.1 12 (by omega)
    have d15 := m4.1 13 (by omega)
    have hYT : ∀ T : ZZ, mclr (mclr (mmov (mmov Y 14 i.toNat) 15 j.toNat) 12) 13 = T → J T 0 105 [(0, .ref (a 0)), (1, .int (iZ q)), (2, .int (iZ t)), (3, .int (iZ i)), (4, .int (iZ j))] [] := by
      intro T hT2
      clear hT
      rw [hT2] at m4 t00 t14 t15 s14 s15 v16 v17 d16 d17 d14 d15
      clear t16 t17 m1 m2 m3 hT2
      have hbp : 0 < ((g j.toNat).natAbs : Int) := by omega
      have ln1 : lenr (T 17) 2100 ≤ 1024 := (lenr_iff (B := 65536) (by decide) d17).mpr (by rw [v17]; exact (hc.2 j.toNat (by omega)).2.2)
      have bl17 := lenr_lt (B := 65536) (by decide) d17
      rw [v17] at bl17
      have hv17 : ∀ n, lenr (T 17) 2100 ≤ n → n ≤ 2100 → vs 65536 (T 17) n = ((g j.toNat).natAbs : Int) := fun n a1 a2 => by
        rw [← v17]
        exact (vs_top (m := n) a2 (fun y b1 b2 => lenr_zero (T 17) 2100 y (by omega) b2)).symm
      have hA0 : 0 ≤ ((g i.toNat).natAbs : Int) := by omega
      generalize hA : ((g i.toNat).natAbs : Int) = A at v16 hA0
      generalize hB : ((g j.toNat).natAbs : Int) = b at v17 hbp bl17 hv17
      generalize hN : lenr (T 17) 2100 = n0 at ln1 bl17 hv17
      have fin : ∀ (hR hQ : Nat → Int), dgs 65536 (n0 + 1) hR → dgs 65536 2100 hQ → vs 65536 hR (n0 + 1) = A % b → vs 65536 hQ 2100 = A / b → J (zrw (zrw T 15 (n0 + 1) hR) 14 2100 hQ) 0 206 [(0, .ref (a 0)), (1, .int (iZ q)), (2, .int (iZ t))] [] := by
        intro hR hQ dR dQ eR eQ
        have r14 : ∀ k, k < 2100 → zrw (zrw T 15 (n0 + 1) hR) 14 2100 hQ 14 k = hQ k := fun k hk => zrw_in hk
        have r15 : zrw (zrw T 15 (n0 + 1) hR) 14 2100 hQ 15 = zrw T 15 (n0 + 1) hR 15 := zrw_off (by omega)
        have r1 : zrw (zrw T 15 (n0 + 1) hR) 14 2100 hQ 1 = T 1 := by rw [zrw_off (by omega), zrw_off (by omega)]
        have r0 : zrw (zrw T 15 (n0 + 1) hR) 14 2100 hQ 0 = T 0 := by rw [zrw_off (by omega), zrw_off (by omega)]
        have x14 : vs 65536 (zrw (zrw T 15 (n0 + 1) hR) 14 2100 hQ 14) 2100 = A / b := by rw [vs_congr r14]; exact eQ
        have x15 : vs 65536 (zrw (zrw T 15 (n0 + 1) hR) 14 2100 hQ 15) 2100 = A % b := by
          rw [r15, vs_top (m := n0 + 1) (by omega) (fun y a1 a2 => by rw [zrw_ge a1]; exact t15 y a2), vs_congr (g := hR) (fun y hy => zrw_in hy)]; exact eR
        have mS := (m4.row (j := 13) (n := n0 + 1) (by omega) dR).row (j := 12) (n := 2100) (by omega) dQ
        have d14' : dgs 65536 2100 (zrw (zrw T 15 (n0 + 1) hR) 14 2100 hQ 14) := mS.1 12 (by omega)
        have d15' : dgs 65536 2100 (zrw (zrw T 15 (n0 + 1) hR) 14 2100 hQ 15) := mS.1 13 (by omega)
        have k14 := lenr_0iff (B := 65536) (by decide) d14'
        have k15 := lenr_0iff (B := 65536) (by decide) d15'
        rw [x14] at k14
        rw [x15] at k15
        have l14 := lenr_le (zrw (zrw T 15 (n0 + 1) hR) 14 2100 hQ 14) 2100
        have l15 := lenr_le (zrw (zrw T 15 (n0 + 1) hR) 14 2100 hQ 15) 2100
        generalize zrw (zrw T 15 (n0 + 1) hR) 14 2100 hQ = S at r1 r0 x14 x15 mS k14 k15 l14 l15 d14' d15'
        generalize hq9 : A / b = Q at k14 x14 eQ
        generalize hr9 : A % b = R at k15 x15 eR
        have go2 : ∀ s1 s2 : Int, s1 = (if Q = 0 then 0 else (g i.toNat).sign * (g j.toNat).sign) → s2 = (if R = 0 then 0 else (g i.toNat).sign) → J (zup (zup S 1 12 s1) 1 13 s2) 0 268 [(0, .ref (a 0)), (1, .int (iZ q)), (2, .int (iZ t))] [] := by
          intro s1 s2 hs1 hs2
          have mF := (mS.sgn (j := 12) (by omega) s1).sgn (j := 13) (by omega) s2
          have y14 : zup (zup S 1 12 s1) 1 13 s2 14 = S 14 := by rw [zup_off _ 1 _ _ (by omega), zup_off _ 1 _ _ (by omega)]
          have y15 : zup (zup S 1 12 s1) 1 13 s2 15 = S 15 := by rw [zup_off _ 1 _ _ (by omega), zup_off _ 1 _ _ (by omega)]
          have hf := div_fin mF (q := q.toNat) (t := t.toNat) (i := i.toNat) (j := j.toNat) (by omega) (by omega) (by omega) (by omega) (by omega) hb (by rw [y14, x14, hA, hB, hq9]) (by rw [y15, x15, hA, hB, hr9]) (by rw [y14, x14, zup_ne (by omega), zup_eq]; exact hs1) (by rw [y15, x15, zup_eq]; exact hs2)
          refine j_aload_n hJ dX1_divide_268 rfl ?_
          refine j_iload_n hJ dX1_divide_269 rfl ?_
          refine j_bipush hJ (by decide) dX1_divide_270 ?_
          refine j_callV hJ (kX1_move l D cI a _ _ _ ⟨by omega, by omega⟩ ⟨by omega, by omega⟩) rfl gX1_divide_X1_move rfl hdX1_move rfl ⟨Nat.le_of_ble_eq_true rfl, Nat.le_of_ble_eq_true rfl⟩ (Nat.le_of_ble_eq_true rfl) (Nat.le_of_ble_eq_true rfl) rfl rfl dX1_divide_272 (fun _ _ h => False.elim h) (fun r272 Z272 hp272 => ?_)
          obtain ⟨rfl, rfl⟩ := hp272
          refine j_aload_n hJ dX1_divide_275 rfl ?_
          refine j_iload_n hJ dX1_divide_276 rfl ?_
          refine j_bipush hJ (by decide) dX1_divide_277 ?_
          refine j_callV hJ (kX1_move l D cI a _ _ _ ⟨by omega, by omega⟩ ⟨by omega, by omega⟩) rfl gX1_divide_X1_move rfl hdX1_move rfl ⟨Nat.le_of_ble_eq_true rfl, Nat.le_of_ble_eq_true rfl⟩ (Nat.le_of_ble_eq_true rfl) (Nat.le_of_ble_eq_true rfl) rfl rfl dX1_divide_279 (fun _ _ h => False.elim h) (fun r279 Z279 hp279 => ?_)
          obtain ⟨rfl, rfl⟩ := hp279
          exact j_vret hJ (Nat.le_of_ble_eq_true rfl) (⟨rfl, by rw [show (12 : Int).toNat = 12 from rfl, show (13 : Int).toNat = 13 from rfl, hf.2, zup_ne (by omega), zup_ne (by omega), r0]; exact t00, hf.1⟩) dX1_divide_282
        have c12 : (12 : Int).toNat = 12 := rfl
        have c13 : (13 : Int).toNat = 13 := rfl
        have mS2 : ∀ s1, dgs 65536 2100 (zup S 1 12 s1 ((13 : Int).toNat + 2)) := fun s1 => by show dgs 65536 2100 (zup S 1 12 s1 15); rw [zup_off _ 1 _ _ (by omega)]; exact d15'
        refine j_aload_n hJ dX1_divide_206 rfl ?_
        refine m_sign hJ hin (by decide +kernel) dX1_divide_207 ?_
        refine j_bipush hJ (by decide) dX1_divide_210 ?_
        refine j_aload_n hJ dX1_divide_212 rfl ?_
        refine j_bipush hJ (by decide) dX1_divide_213 ?_
        refine j_callV hJ (kX1_length l D cI a S 12 ⟨by omega, by omega⟩ d14') rfl gX1_divide_X1_length rfl hdX1_length rfl ⟨Nat.le_of_ble_eq_true rfl, Nat.le_of_ble_eq_true rfl⟩ (Nat.le_of_ble_eq_true rfl) (Nat.le_of_ble_eq_true rfl) rfl rfl dX1_divide_215 (fun _ _ h => False.elim h) (fun r215 Z215 hp215 => ?_)
        obtain ⟨rfl, rfl⟩ := hp215
        rw [show (12 : Int).toNat + 2 = 14 from rfl]
        refine j_if_ne (tgt := 225) hJ (by decide) ⟨by omega, by omega⟩ dX1_divide_218 (fun h218 => ?_) (fun h218 => ?_)
        · refine j_aload_n hJ dX1_divide_225 rfl ?_
          refine m_sign hJ hin (by decide +kernel) dX1_divide_226 ?_
          refine j_bipush hJ (by decide) dX1_divide_229 ?_
          refine m_ald_sg hJ ⟨by omega, by omega⟩ dX1_divide_231 ?_
          refine j_aload_n hJ dX1_divide_232 rfl ?_
          refine m_sign hJ hin (by decide +kernel) dX1_divide_233 ?_
          refine j_bipush hJ (by decide) dX1_divide_236 ?_
          refine m_ald_sg hJ ⟨by omega, by omega⟩ dX1_divide_238 ?_
          rw [r1, show (14 : Int).toNat = 14 from rfl, show (15 : Int).toNat = 15 from rfl, s14, s15]
          refine j_imul hJ dX1_divide_239 ?_
          refine m_ast_sg hJ ⟨by omega, by omega⟩ dX1_divide_240 ?_
          rw [c12]
          refine j_aload_n hJ dX1_divide_241 rfl ?_
          refine m_sign hJ hin (by decide +kernel) dX1_divide_242 ?_
          refine j_bipush hJ (by decide) dX1_divide_245 ?_
          refine j_aload_n hJ dX1_divide_247 rfl ?_
          refine j_bipush hJ (by decide) dX1_divide_248 ?_
          refine j_callV hJ (kX1_length l D cI a _ 13 ⟨by omega, by omega⟩ (mS2 _)) rfl gX1_divide_X1_length rfl hdX1_length rfl ⟨Nat.le_of_ble_eq_true rfl, Nat.le_of_ble_eq_true rfl⟩ (Nat.le_of_ble_eq_true rfl) (Nat.le_of_ble_eq_true rfl) rfl rfl dX1_divide_250 (fun _ _ h => False.elim h) (fun r250 Z250 hp250 => ?_)
          obtain ⟨rfl, rfl⟩ := hp250
          rw [show (13 : Int).toNat + 2 = 15 from rfl, zup_off _ 1 _ _ (j' := 15) (by omega)]
          refine j_if_ne (tgt := 260) hJ (by decide) ⟨by omega, by omega⟩ dX1_divide_253 (fun h253 => ?_) (fun h253 => ?_)
          · refine j_aload_n hJ dX1_divide_260 rfl ?_
            refine m_sign hJ hin (by decide +kernel) dX1_divide_261 ?_
            refine j_bipush hJ (by decide) dX1_divide_264 ?_
            refine m_ald_sg hJ ⟨by omega, by omega⟩ dX1_divide_266 ?_
            try rw [zup_ne (by omega), r1, show (14 : Int).toNat = 14 from rfl, s14]
            refine m_ast_sg hJ ⟨by omega, by omega⟩ dX1_divide_267 ?_
            first | exact go2 _ _ (by rw [if_pos (by omega)]) (by rw [if_pos (by omega)]) | exact go2 _ _ (by rw [if_pos (by omega)]) (by rw [if_neg (by omega)]) | exact go2 _ _ (by rw [if_neg (by omega)]) (by rw [if_pos (by omega)]) | exact go2 _ _ (by rw [if_neg (by omega)]) (by rw [if_neg (by omega)])
          · refine j_iconst hJ dX1_divide_256 ?_
            refine j_goto (tgt := 267) hJ (by decide) dX1_divide_257 ?_
            try rw [zup_ne (by omega), r1, show (14 : Int).toNat = 14 from rfl, s14]
            refine m_ast_sg hJ ⟨by omega, by omega⟩ dX1_divide_267 ?_
            first | exact go2 _ _ (by rw [if_pos (by omega)]) (by rw [if_pos (by omega)]) | exact go2 _ _ (by rw [if_pos (by omega)]) (by rw [if_neg (by omega)]) | exact go2 _ _ (by rw [if_neg (by omega)]) (by rw [if_pos (by omega)]) | exact go2 _ _ (by rw [if_neg (by omega)]) (by rw [if_neg (by omega)])
        · refine j_iconst hJ dX1_divide_221 ?_
          refine j_goto (tgt := 240) hJ (by decide) dX1_divide_222 ?_
          refine m_ast_sg hJ ⟨by omega, by omega⟩ dX1_divide_240 ?_
          rw [c12]
          refine j_aload_n hJ dX1_divide_241 rfl ?_
          refine m_sign hJ hin (by decide +kernel) dX1_divide_242 ?_
          refine j_bipush hJ (by decide) dX1_divide_245 ?_
          refine j_aload_n hJ dX1_divide_247 rfl ?_
          refine j_bipush hJ (by decide) dX1_divide_248 ?_
          refine j_callV hJ (kX1_length l D cI a _ 13 ⟨by omega, by omega⟩ (mS2 _)) rfl gX1_divide_X1_length rfl hdX1_length rfl ⟨Nat.le_of_ble_eq_true rfl, Nat.le_of_ble_eq_true rfl⟩ (Nat.le_of_ble_eq_true rfl) (Nat.le_of_ble_eq_true rfl) rfl rfl dX1_divide_250 (fun _ _ h => False.elim h) (fun r250 Z250 hp250 => ?_)
          obtain ⟨rfl, rfl⟩ := hp250
          rw [show (13 : Int).toNat + 2 = 15 from rfl, zup_off _ 1 _ _ (j' := 15) (by omega)]
          refine j_if_ne (tgt := 260) hJ (by decide) ⟨by omega, by omega⟩ dX1_divide_253 (fun h253 => ?_) (fun h253 => ?_)
          · refine j_aload_n hJ dX1_divide_260 rfl ?_
            refine m_sign hJ hin (by decide +kernel) dX1_divide_261 ?_
            refine j_bipush hJ (by decide) dX1_divide_264 ?_
            refine m_ald_sg hJ ⟨by omega, by omega⟩ dX1_divide_266 ?_
            try rw [zup_ne (by omega), r1, show (14 : Int).toNat = 14 from rfl, s14]
            refine m_ast_sg hJ ⟨by omega, by omega⟩ dX1_divide_267 ?_
            first | exact go2 _ _ (by rw [if_pos (by omega)]) (by rw [if_pos (by omega)]) | exact go2 _ _ (by rw [if_pos (by omega)]) (by rw [if_neg (by omega)]) | exact go2 _ _ (by rw [if_neg (by omega)]) (by rw [if_pos (by omega)]) | exact go2 _ _ (by rw [if_neg (by omega)]) (by rw [if_neg (by omega)])
          · refine j_iconst hJ dX1_divide_256 ?_
            refine j_goto (tgt := 267) hJ (by decide) dX1_divide_257 ?_
            try rw [zup_ne (by omega), r1, show (14 : Int).toNat = 14 from rfl, s14]
            refine m_ast_sg hJ ⟨by omega, by omega⟩ dX1_divide_267 ?_
            first | exact go2 _ _ (by rw [if_pos (by omega)]) (by rw [if_pos (by omega)]) | exact go2 _ _ (by rw [if_pos (by omega)]) (by rw [if_neg (by omega)]) | exact go2 _ _ (by rw [if_neg (by omega)]) (by rw [if_pos (by omega)]) | exact go2 _ _ (by rw [if_neg (by omega)]) (by rw [if_neg (by omega)])
      clear d14 d15 s14 s15 t00 m4
      have e5 : ((n0 : Int) + 1).toNat = n0 + 1 := by omega
      have e13 : (13 : Int).toNat + 2 = 15 := rfl
      have e15 : (15 : Int).toNat + 2 = 17 := rfl
      have hpn : 65536 ^ (n0 + 1) = 65536 ^ n0 * (65536 : Int) := pw_s 65536 n0
      have hb17 := hv17 (n0 + 1) (by omega) (by omega)
      have d15z : dgs 65536 2100 (T 15) := fun k hk => by rw [t15 k hk]; exact ⟨by decide, by decide⟩
      have loop : ∀ (k : Nat) (hR hQ : Nat → Int), k ≤ 33600 → dgs 65536 (n0 + 1) hR → dgs 65536 2100 hQ → vs 65536 hR (n0 + 1) = A / 2 ^ k % b → vs 65536 hQ 2100 = A / 2 ^ k / b * 2 ^ k → J (zrw (zrw T 15 (n0 + 1) hR) 14 2100 hQ) 0 125 [(0, .ref (a 0)), (1, .int (iZ q)), (2, .int (iZ t)), (5, .int (iZ ((n0 : Int) + 1))), (6, .int (iZ ((k : Int) - 1)))] [] := by
        intro k
        induction k with
        | zero =>
          intro hR hQ hk dR dQ eR eQ
          rw [Int.pow_zero, Int.ediv_one] at eR eQ
          refine j_iload hJ dX1_divide_125 rfl ?_
          refine j_if_lt (tgt := 206) hJ (by decide) ⟨by omega, by omega⟩ dX1_divide_127 (fun h127 => ?_) (fun h127 => ?_)
          · exact j_re hJ (fin hR hQ dR dQ eR (by omega)) ⟨rfl, rfl, rfl, trivial⟩
          · omega
        | succ k ih =>
          intro hR hQ hk dR dQ eR eQ
          have st := div_step2 (A := A) hbp (k := k) hA0
          have r1 := Int.emod_nonneg (A / 2 ^ (k + 1)) (Int.ne_of_gt hbp)
          have r2 := Int.emod_lt_of_pos (A / 2 ^ (k + 1)) hbp
          have r3 : 0 ≤ A / 2 ^ k % 2 ∧ A / 2 ^ k % 2 < 2 := by omega
          have hfree : vs 65536 hQ 2100 % 2 ^ (16 * (k / 16) + k % 16 + 1) = 0 := by
            rw [show 16 * (k / 16) + k % 16 + 1 = k + 1 by omega, eQ]
            exact Int.mul_emod_left _ _
          have hq1 : k / 16 < 2100 := by omega
          obtain ⟨ed, f1, f2, f3⟩ := bit_free dQ hq1 (show k % 16 < 16 by omega) hfree
          have pk : (2 : Int) ^ k = 65536 ^ (k / 16) * ((2 ^ (k % 16) : Nat) : Int) := by
            rw [pw2_cast, show (65536 : Int) = 2 ^ 16 by decide, pw_mul, ← Int.pow_add, show 16 * (k / 16) + k % 16 = k by omega]
          clear hfree
          rw [show (((k + 1 : Nat) : Int) - 1) = (k : Int) by omega]
          have c14 : zrw (zrw T 15 (n0 + 1) hR) 14 2100 hQ 16 = T 16 := by rw [zrw_off (by omega), zrw_off (by omega)]
          have c15 : zrw (zrw T 15 (n0 + 1) hR) 14 2100 hQ 15 = zrw T 15 (n0 + 1) hR 15 := zrw_off (by omega)
          have w15 : vs 65536 (zrw (zrw T 15 (n0 + 1) hR) 14 2100 hQ 15) (n0 + 1) = A / 2 ^ (k + 1) % b := by rw [c15, vs_congr (g := hR) (fun y hy => zrw_in hy)]; exact eR
          have dd16 : dgs 65536 2100 (zrw (zrw T 15 (n0 + 1) hR) 14 2100 hQ ((14 : Int).toNat + 2)) := by show dgs 65536 2100 (zrw (zrw T 15 (n0 + 1) hR) 14 2100 hQ 16); rw [c14]; exact d16
          have dd15 : dgs 65536 2100 (zrw (zrw T 15 (n0 + 1) hR) 14 2100 hQ ((13 : Int).toNat + 2)) := by show dgs 65536 2100 (zrw (zrw T 15 (n0 + 1) hR) 14 2100 hQ 15); rw [c15]; exact dgs_zrw d15z dR
          have hfit : vs 65536 (zrw (zrw T 15 (n0 + 1) hR) 14 2100 hQ ((13 : Int).toNat + 2)) ((n0 : Int) + 1).toNat * ((2 ^ 1 : Nat) : Int) + A / 2 ^ k % 2 < 65536 ^ ((n0 : Int) + 1).toNat := by
            rw [e5, e13, w15, hpn]
            show _ * 2 + _ < _
            omega
          have key : ∀ (f hQ2 : Nat → Int), dgs 65536 (n0 + 1) f → dgs 65536 2100 hQ2 → vs 65536 f (n0 + 1) = A / 2 ^ k % b → vs 65536 hQ2 2100 = A / 2 ^ k / b * 2 ^ k → J (zrw (zrw T 15 (n0 + 1) f) 14 2100 hQ2) 0 200 [(0, .ref (a 0)), (1, .int (iZ q)), (2, .int (iZ t)), (5, .int (iZ ((n0 : Int) + 1))), (6, .int (iZ (k : Int)))] [] := by
            intro f hQ2 df dQ2 ef eQ2
            refine j_iinc hJ (by decide) dX1_divide_200 rfl ?_
            refine j_goto (tgt := 125) hJ (by decide) dX1_divide_203 ?_
            exact j_re hJ (ih f hQ2 (by omega) df dQ2 ef eQ2) ⟨rfl, rfl, rfl, rfl, rfl, trivial⟩
          refine j_iload hJ dX1_divide_125 rfl ?_
          refine j_if_lt (tgt := 206) hJ (by decide) ⟨by omega, by omega⟩ dX1_divide_127 (fun h127 => ?_) (fun h127 => ?_)
          · omega
          · refine j_aload_n hJ dX1_divide_130 rfl ?_
            refine j_bipush hJ (by decide) dX1_divide_131 ?_
            refine j_iconst hJ dX1_divide_133 ?_
            refine j_aload_n hJ dX1_divide_134 rfl ?_
            refine j_bipush hJ (by decide) dX1_divide_135 ?_
            refine j_iload hJ dX1_divide_137 rfl ?_
            refine j_callV hJ (kX1_bit l D cI a _ 14 k ⟨by omega, by omega⟩ (by omega) dd16) rfl gX1_divide_X1_bit rfl hdX1_bit rfl ⟨Nat.le_of_ble_eq_true rfl, Nat.le_of_ble_eq_true rfl⟩ (Nat.le_of_ble_eq_true rfl) (Nat.le_of_ble_eq_true rfl) rfl rfl dX1_divide_139 (fun _ _ h => False.elim h) (fun r139 Z139 hp139 => ?_)
            obtain ⟨rfl, rfl⟩ := hp139
            rw [show (14 : Int).toNat + 2 = 16 from rfl, c14, v16]
            refine j_iload hJ dX1_divide_142 rfl ?_
            refine j_callV hJ (kX1_shift l D cI a _ 13 1 (A / 2 ^ k % 2) ((n0 : Int) + 1) ⟨by omega, by omega⟩ (Or.inl rfl) ⟨r3.1, r3.2⟩ ⟨by omega, by omega⟩ dd15 hfit) rfl gX1_divide_X1_shift rfl hdX1_shift rfl ⟨Nat.le_of_ble_eq_true rfl, Nat.le_of_ble_eq_true rfl⟩ (Nat.le_of_ble_eq_true rfl) (Nat.le_of_ble_eq_true rfl) rfl rfl dX1_divide_144 (fun _ _ h => False.elim h) (fun r144 Z144 hp144 => ?_)
            obtain ⟨rfl, f, rfl, hf, hv⟩ := hp144
            rw [e5, e13] at hv
            rw [e5] at hf
            rw [w15] at hv
            rw [e5, e13, zrw_comm (j := 14) (j2 := 15) (by decide), zrw_zrw (Nat.le_refl _)]
            have hv2 : vs 65536 f (n0 + 1) = A / 2 ^ (k + 1) % b * 2 + A / 2 ^ k % 2 := hv
            have x15 : zrw (zrw T 15 (n0 + 1) f) 14 2100 hQ 15 = zrw T 15 (n0 + 1) f 15 := zrw_off (by omega)
            have x17 : zrw (zrw T 15 (n0 + 1) f) 14 2100 hQ 17 = T 17 := by rw [zrw_off (by omega), zrw_off (by omega)]
            have y15 : vs 65536 (zrw (zrw T 15 (n0 + 1) f) 14 2100 hQ 15) (n0 + 1) = A / 2 ^ (k + 1) % b * 2 + A / 2 ^ k % 2 := by rw [x15, vs_congr (g := f) (fun y hy => zrw_in hy)]; exact hv2
            have z15 : dgs 65536 2100 (zrw (zrw T 15 (n0 + 1) f) 14 2100 hQ ((13 : Int).toNat + 2)) := by show dgs 65536 2100 (zrw (zrw T 15 (n0 + 1) f) 14 2100 hQ 15); rw [x15]; exact dgs_zrw d15z hf
            have z17 : dgs 65536 2100 (zrw (zrw T 15 (n0 + 1) f) 14 2100 hQ ((15 : Int).toNat + 2)) := by show dgs 65536 2100 (zrw (zrw T 15 (n0 + 1) f) 14 2100 hQ 17); rw [x17]; exact d17
            refine j_aload_n hJ dX1_divide_147 rfl ?_
            refine j_bipush hJ (by decide) dX1_divide_148 ?_
            refine j_bipush hJ (by decide) dX1_divide_150 ?_
            refine j_iload hJ dX1_divide_152 rfl ?_
            refine j_callV hJ (kX1_isBelow l D cI a _ 13 15 ((n0 : Int) + 1) ⟨by omega, by omega⟩ ⟨by omega, by omega⟩ ⟨by omega, by omega⟩ z15 z17) rfl gX1_divide_X1_isBelow rfl hdX1_isBelow rfl ⟨Nat.le_of_ble_eq_true rfl, Nat.le_of_ble_eq_true rfl⟩ (Nat.le_of_ble_eq_true rfl) (Nat.le_of_ble_eq_true rfl) rfl rfl dX1_divide_154 (fun _ _ h => False.elim h) (fun r154 Z154 hp154 => ?_)
            obtain ⟨rfl, rfl⟩ := hp154
            rw [e5, e13, e15, y15, x17, hb17]
            have hx := ite01 (A / 2 ^ (k + 1) % b * 2 + A / 2 ^ k % 2 < b)
            generalize (if A / 2 ^ (k + 1) % b * 2 + A / 2 ^ k % 2 < b then (1 : Int) else 0) = x at hx ⊢
            refine j_if_ne (tgt := 200) hJ (by decide) ⟨by omega, by omega⟩ dX1_divide_157 (fun h157 => ?_) (fun h157 => ?_)
            · first | (have st1 := st.1 (by omega); exact j_re hJ (key f hQ hf dQ (by rw [hv2, st1.1]) (by rw [eQ, st1.2])) ⟨rfl, rfl, rfl, rfl, rfl, trivial⟩) | (have st2 := st.2 (by omega); exact j_re hJ (key f4 _ hf4 (dgs_upd dQ ⟨f2, f3⟩) (by rw [hv4, st2.1]) (by rw [vs_upd _ hq1, eQ, st2.2, pk]; grind)) ⟨rfl, rfl, rfl, rfl, rfl, trivial⟩)
            · refine j_aload_n hJ dX1_divide_160 rfl ?_
              refine j_bipush hJ (by decide) dX1_divide_161 ?_
              refine j_bipush hJ (by decide) dX1_divide_163 ?_
              refine j_iload hJ dX1_divide_165 rfl ?_
              refine j_callV hJ (kX1_lessBy l D cI a _ 13 15 ((n0 : Int) + 1) ⟨by omega, by omega⟩ ⟨by omega, by omega⟩ ⟨by omega, by omega⟩ (by omega) z15 z17 (by rw [e5, e13, e15, y15, x17, hb17]; omega)) rfl gX1_divide_X1_lessBy rfl hdX1_lessBy rfl ⟨Nat.le_of_ble_eq_true rfl, Nat.le_of_ble_eq_true rfl⟩ (Nat.le_of_ble_eq_true rfl) (Nat.le_of_ble_eq_true rfl) rfl rfl dX1_divide_167 (fun _ _ h => False.elim h) (fun r167 Z167 hp167 => ?_)
              obtain ⟨rfl, f4, rfl, hf4, hv4⟩ := hp167
              rw [e5, e13, e15, y15, x17, hb17] at hv4
              rw [e5] at hf4
              rw [e5, e13, zrw_comm (j := 14) (j2 := 15) (by decide), zrw_zrw (Nat.le_refl _)]
              refine j_aload_n hJ dX1_divide_170 rfl ?_
              refine j_bipush hJ (by decide) dX1_divide_171 ?_
              refine j_iload hJ dX1_divide_173 rfl ?_
              refine j_bipush hJ (by decide) dX1_divide_175 ?_
              refine j_idiv hJ (by omega) ⟨by omega, by omega⟩ ⟨by omega, by omega⟩ (by omega) dX1_divide_177 ?_
              refine j_aload_n hJ dX1_divide_178 rfl ?_
              refine j_bipush hJ (by decide) dX1_divide_179 ?_
              refine j_iload hJ dX1_divide_181 rfl ?_
              refine j_bipush hJ (by decide) dX1_divide_183 ?_
              refine j_idiv hJ (by omega) ⟨by omega, by omega⟩ ⟨by omega, by omega⟩ (by omega) dX1_divide_185 ?_
              refine j_callV hJ (kX1_get l D cI a _ 12 _ ⟨by omega, by omega⟩ ⟨by omega, by omega⟩) rfl gX1_divide_X1_get rfl hdX1_get rfl ⟨Nat.le_of_ble_eq_true rfl, Nat.le_of_ble_eq_true rfl⟩ (Nat.le_of_ble_eq_true rfl) (Nat.le_of_ble_eq_true rfl) rfl rfl dX1_divide_186 (fun _ _ h => False.elim h) (fun r186 Z186 hp186 => ?_)
              obtain ⟨rfl, rfl⟩ := hp186
              rw [show (12 : Int).toNat + 2 = 14 from rfl, show ((k : Int) / 16).toNat = k / 16 by omega, zrw_in hq1]
              refine j_iconst hJ dX1_divide_189 ?_
              refine j_iload hJ dX1_divide_190 rfl ?_
              refine j_bipush hJ (by decide) dX1_divide_192 ?_
              refine j_irem hJ (by omega) ⟨by omega, by omega⟩ ⟨by omega, by omega⟩ (by omega) dX1_divide_194 ?_
              rw [show (k : Int) % 16 = ((k % 16 : Nat) : Int) by omega]
              refine j_ishl (n := k % 16) hJ (by omega) dX1_divide_195 ?_
              rw [f1, Int.one_mul]
              refine j_ior hJ (iZ_or (n := k % 16 + 1) (by omega) ⟨Int.natCast_nonneg _, by rw [Nat.pow_succ]; have := Nat.two_pow_pos (k % 16); omega⟩) dX1_divide_196 ?_
              rw [← f1]
              refine j_callV hJ (kX1_put l D cI a _ 12 _ _ ⟨by omega, by omega⟩ ⟨by omega, by omega⟩) rfl gX1_divide_X1_put rfl hdX1_put rfl ⟨Nat.le_of_ble_eq_true rfl, Nat.le_of_ble_eq_true rfl⟩ (Nat.le_of_ble_eq_true rfl) (Nat.le_of_ble_eq_true rfl) rfl rfl dX1_divide_197 (fun _ _ h => False.elim h) (fun r197 Z197 hp197 => ?_)
              obtain ⟨rfl, rfl⟩ := hp197
              rw [show (12 : Int).toNat + 2 = 14 from rfl, show ((k : Int) / 16).toNat = k / 16 by omega, zrw_upd hq1]
              first | (have st1 := st.1 (by omega); exact j_re hJ (key f hQ hf dQ (by rw [hv2, st1.1]) (by rw [eQ, st1.2])) ⟨rfl, rfl, rfl, rfl, rfl, trivial⟩) | (have st2 := st.2 (by omega); exact j_re hJ (key f4 _ hf4 (dgs_upd dQ ⟨f2, f3⟩) (by rw [hv4, st2.1]) (by rw [vs_upd _ hq1, eQ, st2.2, pk]; grind)) ⟨rfl, rfl, rfl, rfl, rfl, trivial⟩)
      have d17' : dgs 65536 2100 (T ((15 : Int).toNat + 2)) := d17
      have d16' : dgs 65536 2100 (T ((14 : Int).toNat + 2)) := d16
      refine j_aload_n hJ dX1_divide_105 rfl ?_
      refine j_bipush hJ (by decide) dX1_divide_106 ?_
      refine j_callV hJ (kX1_length l D cI a T 15 ⟨by omega, by omega⟩ d17') rfl gX1_divide_X1_length rfl hdX1_length rfl ⟨Nat.le_of_ble_eq_true rfl, Nat.le_of_ble_eq_true rfl⟩ (Nat.le_of_ble_eq_true rfl) (Nat.le_of_ble_eq_true rfl) rfl rfl dX1_divide_108 (fun _ _ h => False.elim h) (fun r108 Z108 hp108 => ?_)
      obtain ⟨rfl, rfl⟩ := hp108
      rw [e15, hN]
      refine j_iconst hJ dX1_divide_111 ?_
      refine j_iadd hJ dX1_divide_112 ?_
      refine j_istore hJ (by decide) dX1_divide_113 ?_
      refine j_aload_n hJ dX1_divide_115 rfl ?_
      refine j_bipush hJ (by decide) dX1_divide_116 ?_
      refine j_callV hJ (kX1_bitsOf l D cI a T 14 ⟨by omega, by omega⟩ d16') rfl gX1_divide_X1_bitsOf rfl hdX1_bitsOf rfl ⟨Nat.le_of_ble_eq_true rfl, Nat.le_of_ble_eq_true rfl⟩ (Nat.le_of_ble_eq_true rfl) (Nat.le_of_ble_eq_true rfl) rfl rfl dX1_divide_118 (fun _ _ h => False.elim h) (fun r118 Z118 hp118 => ?_)
      obtain ⟨⟨zb, rfl, hzb, hzb2⟩, rfl⟩ := hp118
      rw [show (14 : Int).toNat + 2 = 16 from rfl, v16] at hzb
      refine j_iconst hJ dX1_divide_121 ?_
      refine j_isub hJ dX1_divide_122 ?_
      refine j_istore hJ (by decide) dX1_divide_123 ?_
      have hA2 : A / 2 ^ zb = 0 := Int.ediv_eq_zero_of_lt hA0 hzb.1
      have h9 := loop zb (fun _ => 0) (fun _ => 0) hzb2 (fun _ _ => ⟨by show (0 : Int) ≤ 0; decide, by show (0 : Int) < 65536; decide⟩) (fun _ _ => ⟨by show (0 : Int) ≤ 0; decide, by show (0 : Int) < 65536; decide⟩) (by rw [hA2, Int.zero_emod]; exact vs_zero (fun _ _ => rfl)) (by rw [hA2, Int.zero_ediv, Int.zero_mul]; exact vs_zero (fun _ _ => rfl))
      rw [zrw_id (fun y hy => (t15 y (by omega)).symm), zrw_id (fun y hy => (t14 y hy).symm)] at h9
      exact j_re hJ h9 ⟨rfl, rfl, rfl, rfl, rfl, trivial⟩
    refine j_aload_n hJ dX1_divide_78 rfl ?_
    refine j_bipush hJ (by decide) dX1_divide_79 ?_
    refine j_iload_n hJ dX1_divide_81 rfl ?_
    refine j_callV hJ (kX1_move l D cI a _ _ _ ⟨by omega, by omega⟩ ⟨by omega, by omega⟩) rfl gX1_divide_X1_move rfl hdX1_move rfl ⟨Nat.le_of_ble_eq_true rfl, Nat.le_of_ble_eq_true rfl⟩ (Nat.le_of_ble_eq_true rfl) (Nat.le_of_ble_eq_true rfl) rfl rfl dX1_divide_82 (fun _ _ h => False.elim h) (fun r82 Z82 hp82 => ?_)
    obtain ⟨rfl, rfl⟩ := hp82
    refine j_aload_n hJ dX1_divide_85 rfl ?_
    refine j_bipush hJ (by decide) dX1_divide_86 ?_
    refine j_iload hJ dX1_divide_88 rfl ?_
    refine j_callV hJ (kX1_move l D cI a _ _ _ ⟨by omega, by omega⟩ ⟨by omega, by omega⟩) rfl gX1_divide_X1_move rfl hdX1_move rfl ⟨Nat.le_of_ble_eq_true rfl, Nat.le_of_ble_eq_true rfl⟩ (Nat.le_of_ble_eq_true rfl) (Nat.le_of_ble_eq_true rfl) rfl rfl dX1_divide_90 (fun _ _ h => False.elim h) (fun r90 Z90 hp90 => ?_)
    obtain ⟨rfl, rfl⟩ := hp90
    refine j_aload_n hJ dX1_divide_93 rfl ?_
    refine j_bipush hJ (by decide) dX1_divide_94 ?_
    refine j_callV hJ (kX1_clear l D cI a _ _ ⟨by omega, by omega⟩) rfl gX1_divide_X1_clear rfl hdX1_clear rfl ⟨Nat.le_of_ble_eq_true rfl, Nat.le_of_ble_eq_true rfl⟩ (Nat.le_of_ble_eq_true rfl) (Nat.le_of_ble_eq_true rfl) rfl rfl dX1_divide_96 (fun _ _ h => False.elim h) (fun r96 Z96 hp96 => ?_)
    obtain ⟨rfl, rfl⟩ := hp96
    refine j_aload_n hJ dX1_divide_99 rfl ?_
    refine j_bipush hJ (by decide) dX1_divide_100 ?_
    refine j_callV hJ (kX1_clear l D cI a _ _ ⟨by omega, by omega⟩) rfl gX1_divide_X1_clear rfl hdX1_clear rfl ⟨Nat.le_of_ble_eq_true rfl, Nat.le_of_ble_eq_true rfl⟩ (Nat.le_of_ble_eq_true rfl) (Nat.le_of_ble_eq_true rfl) rfl rfl dX1_divide_102 (fun _ _ h => False.elim h) (fun r102 Z102 hp102 => ?_)
    obtain ⟨rfl, rfl⟩ := hp102
    exact hYT _ rfl
  refine j_aload_n hJ dX1_divide_0 rfl ?_
  refine j_iload_n hJ dX1_divide_1 rfl ?_
  refine j_callS hJ (kX1_isRegister l D _ ⟨by omega, by omega⟩) rfl gX1_divide_X1_isRegister rfl hsX1_isRegister rfl ⟨Nat.le_of_ble_eq_true rfl, Nat.le_of_ble_eq_true rfl⟩ (Nat.le_of_ble_eq_true rfl) (Nat.le_of_ble_eq_true rfl) dX1_divide_2 (fun _ h => False.elim h) (fun r2 hp2 => ?_)
  subst hp2
  refine j_if_eq (tgt := 34) hJ (by decide) ⟨by omega, by omega⟩ dX1_divide_5 (fun h5 => ?_) (fun h5 => ?_)
  · rw [if_neg (by omega)] at hJ
    refine j_iconst hJ dX1_divide_34 ?_
    refine m_putcode hJ hin (by decide +kernel) dX1_divide_35 ?_
    refine j_aload_n hJ dX1_divide_38 rfl ?_
    refine m_code hJ hin (by decide +kernel) dX1_divide_39 ?_
    rw [zup_eq]
    refine j_if_le (tgt := 46) hJ (by decide) ⟨by omega, by omega⟩ dX1_divide_42 (fun h42 => absurd h42 (by decide)) (fun h42 => ?_)
    exact j_vret hJ (Nat.le_of_ble_eq_true rfl) (⟨rfl, zup_eq _ _ _ _, hI.code 1⟩) dX1_divide_45
  · refine j_iload_n hJ dX1_divide_8 rfl ?_
    refine j_callS hJ (kX1_isRegister l D _ ⟨by omega, by omega⟩) rfl gX1_divide_X1_isRegister rfl hsX1_isRegister rfl ⟨Nat.le_of_ble_eq_true rfl, Nat.le_of_ble_eq_true rfl⟩ (Nat.le_of_ble_eq_true rfl) (Nat.le_of_ble_eq_true rfl) dX1_divide_9 (fun _ h => False.elim h) (fun r9 hp9 => ?_)
    subst hp9
    refine j_if_eq (tgt := 34) hJ (by decide) ⟨by omega, by omega⟩ dX1_divide_12 (fun h12 => ?_) (fun h12 => ?_)
    · rw [if_neg (by omega)] at hJ
      refine j_iconst hJ dX1_divide_34 ?_
      refine m_putcode hJ hin (by decide +kernel) dX1_divide_35 ?_
      refine j_aload_n hJ dX1_divide_38 rfl ?_
      refine m_code hJ hin (by decide +kernel) dX1_divide_39 ?_
      rw [zup_eq]
      refine j_if_le (tgt := 46) hJ (by decide) ⟨by omega, by omega⟩ dX1_divide_42 (fun h42 => absurd h42 (by decide)) (fun h42 => ?_)
      exact j_vret hJ (Nat.le_of_ble_eq_true rfl) (⟨rfl, zup_eq _ _ _ _, hI.code 1⟩) dX1_divide_45
    · refine j_iload_n hJ dX1_divide_15 rfl ?_
      refine j_callS hJ (kX1_isRegister l D _ ⟨by omega, by omega⟩) rfl gX1_divide_X1_isRegister rfl hsX1_isRegister rfl ⟨Nat.le_of_ble_eq_true rfl, Nat.le_of_ble_eq_true rfl⟩ (Nat.le_of_ble_eq_true rfl) (Nat.le_of_ble_eq_true rfl) dX1_divide_16 (fun _ h => False.elim h) (fun r16 hp16 => ?_)
      subst hp16
      refine j_if_eq (tgt := 34) hJ (by decide) ⟨by omega, by omega⟩ dX1_divide_19 (fun h19 => ?_) (fun h19 => ?_)
      · rw [if_neg (by omega)] at hJ
        refine j_iconst hJ dX1_divide_34 ?_
        refine m_putcode hJ hin (by decide +kernel) dX1_divide_35 ?_
        refine j_aload_n hJ dX1_divide_38 rfl ?_
        refine m_code hJ hin (by decide +kernel) dX1_divide_39 ?_
        rw [zup_eq]
        refine j_if_le (tgt := 46) hJ (by decide) ⟨by omega, by omega⟩ dX1_divide_42 (fun h42 => absurd h42 (by decide)) (fun h42 => ?_)
        exact j_vret hJ (Nat.le_of_ble_eq_true rfl) (⟨rfl, zup_eq _ _ _ _, hI.code 1⟩) dX1_divide_45
      · refine j_iload hJ dX1_divide_22 rfl ?_
        refine j_callS hJ (kX1_isRegister l D _ ⟨by omega, by omega⟩) rfl gX1_divide_X1_isRegister rfl hsX1_isRegister rfl ⟨Nat.le_of_ble_eq_true rfl, Nat.le_of_ble_eq_true rfl⟩ (Nat.le_of_ble_eq_true rfl) (Nat.le_of_ble_eq_true rfl) dX1_divide_24 (fun _ h => False.elim h) (fun r24 hp24 => ?_)
        subst hp24
        refine j_if_eq (tgt := 34) hJ (by decide) ⟨by omega, by omega⟩ dX1_divide_27 (fun h27 => ?_) (fun h27 => ?_)
        · rw [if_neg (by omega)] at hJ
          refine j_iconst hJ dX1_divide_34 ?_
          refine m_putcode hJ hin (by decide +kernel) dX1_divide_35 ?_
          refine j_aload_n hJ dX1_divide_38 rfl ?_
          refine m_code hJ hin (by decide +kernel) dX1_divide_39 ?_
          rw [zup_eq]
          refine j_if_le (tgt := 46) hJ (by decide) ⟨by omega, by omega⟩ dX1_divide_42 (fun h42 => absurd h42 (by decide)) (fun h42 => ?_)
          exact j_vret hJ (Nat.le_of_ble_eq_true rfl) (⟨rfl, zup_eq _ _ _ _, hI.code 1⟩) dX1_divide_45
        · rw [if_pos ⟨⟨by omega, by omega⟩, ⟨by omega, by omega⟩, ⟨by omega, by omega⟩, ⟨by omega, by omega⟩⟩] at hJ
          have sj := (hI.2 j.toNat (by omega)).2.1
          have scj := sg_cases (g j.toNat)
          refine j_iconst hJ dX1_divide_30 ?_
          refine j_goto (tgt := 35) hJ (by decide) dX1_divide_31 ?_
          refine m_putcode hJ hin (by decide +kernel) dX1_divide_35 ?_
          refine j_aload_n hJ dX1_divide_38 rfl ?_
          refine m_code hJ hin (by decide +kernel) dX1_divide_39 ?_
          rw [zup_eq]
          refine j_if_le (tgt := 46) hJ (by decide) ⟨by omega, by omega⟩ dX1_divide_42 (fun h42 => ?_) (fun h42 => absurd h42 (by decide))
          refine j_aload_n hJ dX1_divide_46 rfl ?_
          refine j_iload_n hJ dX1_divide_47 rfl ?_
          refine j_iload_n hJ dX1_divide_48 rfl ?_
          refine j_icmp_eq (tgt := 62) hJ (by decide) ⟨by omega, by omega⟩ ⟨by omega, by omega⟩ dX1_divide_49 (fun h49 => ?_) (fun h49 => ?_)
          · rw [if_pos (by omega)] at hJ
            refine j_iconst hJ dX1_divide_62 ?_
            refine j_goto (tgt := 67) hJ (by decide) dX1_divide_63 ?_
            refine m_putcode hJ hin (by decide +kernel) dX1_divide_67 ?_
            refine j_aload_n hJ dX1_divide_70 rfl ?_
            refine m_code hJ hin (by decide +kernel) dX1_divide_71 ?_
            rw [zup_eq]
            refine j_if_le (tgt := 78) hJ (by decide) ⟨by omega, by omega⟩ dX1_divide_74 (fun h74 => absurd h74 (by decide)) (fun h74 => ?_)
            exact j_vret hJ (Nat.le_of_ble_eq_true rfl) (⟨rfl, zup_eq _ _ _ _, (hI.code 0).code 2⟩) dX1_divide_77
          · refine j_aload_n hJ dX1_divide_52 rfl ?_
            refine m_sign hJ hin (by decide +kernel) dX1_divide_53 ?_
            refine j_iload hJ dX1_divide_56 rfl ?_
            refine m_ald_sg hJ ⟨by omega, by omega⟩ dX1_divide_58 ?_
            rw [zup_off _ 0 _ _ (by omega), sj]
            refine j_if_ne (tgt := 66) hJ (by decide) ⟨by omega, by omega⟩ dX1_divide_59 (fun h59 => ?_) (fun h59 => ?_)
            · rw [if_neg (by omega)] at hJ
              refine j_iconst hJ dX1_divide_66 ?_
              refine m_putcode hJ hin (by decide +kernel) dX1_divide_67 ?_
              refine j_aload_n hJ dX1_divide_70 rfl ?_
              refine m_code hJ hin (by decide +kernel) dX1_divide_71 ?_
              rw [zup_eq]
              refine j_if_le (tgt := 78) hJ (by decide) ⟨by omega, by omega⟩ dX1_divide_74 (fun h74 => ?_) (fun h74 => absurd h74 (by decide))
              exact j_re hJ (main ⟨by omega, by omega⟩ ⟨by omega, by omega⟩ ⟨by omega, by omega⟩ ⟨by omega, by omega⟩ (by omega) (by omega) hJ) ⟨rfl, rfl, rfl, rfl, rfl, trivial⟩
            · rw [if_pos (by omega)] at hJ
              refine j_iconst hJ dX1_divide_62 ?_
              refine j_goto (tgt := 67) hJ (by decide) dX1_divide_63 ?_
              refine m_putcode hJ hin (by decide +kernel) dX1_divide_67 ?_
              refine j_aload_n hJ dX1_divide_70 rfl ?_
              refine m_code hJ hin (by decide +kernel) dX1_divide_71 ?_
              rw [zup_eq]
              refine j_if_le (tgt := 78) hJ (by decide) ⟨by omega, by omega⟩ dX1_divide_74 (fun h74 => absurd h74 (by decide)) (fun h74 => ?_)
              exact j_vret hJ (Nat.le_of_ble_eq_true rfl) (⟨rfl, zup_eq _ _ _ _, (hI.code 0).code 2⟩) dX1_divide_77
end M11
end
section
def st4 (T : ZZ) (n : Nat) (G R O : Nat → Int) : ZZ := zrw (zrw (zrw T 17 n G) 15 n R) 14 n O
theorem st4_O (T : ZZ) (n : Nat) (G R O f : Nat → Int) : zrw (st4 T n G R O) 14 n f = st4 T n G R f := zrw_zrw (Nat.le_refl n)
theorem st4_R (T : ZZ) (n : Nat) (G R O f : Nat → Int) : zrw (st4 T n G R O) 15 n f = st4 T n G f O := by
  unfold st4; rw [zrw_comm (j := 14) (by decide), zrw_zrw (Nat.le_refl n)]
theorem st4_G (T : ZZ) (n : Nat) (G R O f : Nat → Int) : zrw (st4 T n G R O) 17 n f = st4 T n f R O := by
  unfold st4; rw [zrw_comm (j := 14) (by decide), zrw_comm (j := 15) (by decide), zrw_zrw (Nat.le_refl n)]
theorem st4_14 {T : ZZ} {n i : Nat} {G R O : Nat → Int} (h : i < n) : st4 T n G R O 14 i = O i := zrw_in h
theorem st4_15 {T : ZZ} {n i : Nat} {G R O : Nat → Int} (h : i < n) : st4 T n G R O 15 i = R i := by unfold st4; rw [zrw_off (by decide), zrw_in h]
theorem st4_17 {T : ZZ} {n i : Nat} {G R O : Nat → Int} (h : i < n) : st4 T n G R O 17 i = G i := by unfold st4; rw [zrw_off (by decide), zrw_off (by decide), zrw_in h]
theorem st4_14g {T : ZZ} {n i : Nat} {G R O : Nat → Int} (h : n ≤ i) : st4 T n G R O 14 i = T 14 i := by unfold st4; rw [zrw_ge h, zrw_off (by decide), zrw_off (by decide)]
theorem st4_off {T : ZZ} {n j : Nat} {G R O : Nat → Int} (h1 : j ≠ 14) (h2 : j ≠ 15) (h3 : j ≠ 17) : st4 T n G R O j = T j := by unfold st4; rw [zrw_off h1, zrw_off h2, zrw_off h3]
theorem st4_d {T : ZZ} {n : Nat} {G R O : Nat → Int} (hT : ∀ j, j < 16 → dgs 65536 2100 (T (j + 2))) (hG : dgs 65536 n G) (hR : dgs 65536 n R) (hO : dgs 65536 n O) : ∀ j, j < 16 → dgs 65536 2100 (st4 T n G R O (j + 2)) := by
  intro j hj
  have h1 : ∀ j, j < 16 → dgs 65536 2100 (zrw T 17 n G (j + 2)) := fun j hj => by
    by_cases e : j = 15
    · subst e; exact dgs_zrw (hT 15 hj) hG
    · rw [zrw_off (by omega)]; exact hT j hj
  have h2 : ∀ j, j < 16 → dgs 65536 2100 (zrw (zrw T 17 n G) 15 n R (j + 2)) := fun j hj => by
    by_cases e : j = 13
    · subst e; exact dgs_zrw (h1 13 hj) hR
    · rw [zrw_off (by omega)]; exact h1 j hj
  unfold st4
  by_cases e : j = 12
  · subst e; exact dgs_zrw (h2 12 hj) hO
  · rw [zrw_off (by omega)]; exact h2 j hj
/-- one step of a root by pairs of bits -/
theorem root_step {X r t : Int} (hr : 0 ≤ r) (h1 : r * r ≤ X) (h2 : X < (r + 1) * (r + 1)) (ht : 0 ≤ t ∧ t < 4) : (4 * r + 1 ≤ 4 * (X - r * r) + t → (2 * r + 1) * (2 * r + 1) ≤ 4 * X + t ∧ 4 * X + t < (2 * r + 1 + 1) * (2 * r + 1 + 1) ∧ 4 * (X - r * r) + t - (4 * r + 1) = 4 * X + t - (2 * r + 1) * (2 * r + 1)) ∧
    (4 * (X - r * r) + t < 4 * r + 1 → (2 * r) * (2 * r) ≤ 4 * X + t ∧ 4 * X + t < (2 * r + 1) * (2 * r + 1) ∧ 4 * (X - r * r) + t = 4 * X + t - (2 * r) * (2 * r)) := by
  constructor <;> intro h <;> refine ⟨by grind, by grind, by grind⟩
theorem quarter {A : Int} {k : Nat} : A / 4 ^ k = 4 * (A / 4 ^ (k + 1)) + (2 * (A / 2 ^ (2 * k + 1) % 2) + A / 2 ^ (2 * k) % 2) := by
  have e1 : (4 : Int) ^ k = 2 ^ (2 * k) := by rw [← pw_mul]; rfl
  have e2 : A / 4 ^ (k + 1) = A / 4 ^ k / 4 := by rw [pw_s, ← Int.ediv_ediv_of_nonneg (Int.le_of_lt (pw_pos (by decide) k))]
  have e3 : A / 2 ^ (2 * k + 1) = A / 4 ^ k / 2 := by rw [pw_s, ← e1, ← Int.ediv_ediv_of_nonneg (Int.le_of_lt (pw_pos (by decide) k))]
  rw [e2, e3, ← e1]
  omega
theorem root_fits {A r : Int} {n : Nat} (hr : 0 ≤ r) (h1 : r * r ≤ A) (h2 : A < 65536 ^ n) : r < 65536 ^ (n / 2 + 1) := by
  rcases Int.lt_or_le r (65536 ^ (n / 2 + 1)) with q | q
  · exact q
  · have hp := pw_pos (B := 65536) (by decide) (n / 2 + 1)
    have h3 := Int.mul_le_mul q q (Int.le_of_lt hp) hr
    rw [← Int.pow_add] at h3
    have h4 : (65536 : Int) ^ n ≤ 65536 ^ (n / 2 + 1 + (n / 2 + 1)) := pw_mono (by decide) (by omega)
    omega
section M12
variable (l : Launch) (D : va_G) (cI : ClassId) (a : Nat → Nat) (Z : ZZ)
set_option maxRecDepth 20000 in
theorem kX1_root (g : Nat → Int) (hI : MI Z g) (r i : Int) (h0 : i32 r) (h1 : i32 i) : Ct l D (tM cI) (wM cI a) yX1_root wsX1_root 3 0 68 [.ref (a 0), .int (iZ r), .int (iZ i)] Z (fun v Z' => v = none ∧ Z' 0 0 = (oRoot g r i).1 ∧ MI Z' (oRoot g r i).2) nX := by
  refine Ct.of (cc := cX1_root) (maxL := 6) (ret := none) rfl (by decide) rfl (Nat.le_of_ble_eq_true rfl) (fun J hJ => ?_)
  have hin : ∀ w ∈ u_ws RX1 TX1 3, w ∈ wsX1_root := by decide +kernel
  unfold oRoot at hJ
  have p0 := isR_spec r
  have p1 := isR_spec i
  have main : isRg r → isRg i → 0 ≤ g i.toNat → IsJ l D (tM cI) (wM cI a) cX1_root 6 wsX1_root RX1 3 0 68 none (fun v Z' => v = none ∧ Z' 0 0 = 0 ∧ MI Z' (gset g r.toNat (rt (g i.toNat)))) nX J → J (zup Z 0 0 0) 0 46 [(0, .ref (a 0)), (1, .int (iZ r)), (2, .int (iZ i))] [] := by
    intro hr hi hb hJ
    clear p0 p1
    have hc := hI.code 0
    have hc0 : zup Z 0 0 0 0 0 = 0 := zup_eq _ _ _ _
    generalize zup Z 0 0 0 = Y at hc hc0
    have m1 := hc.mov (j := 14) (i := i.toNat) (by omega) (by omega)
    have zd : dgs 65536 2100 (fun _ => 0) := fun _ _ => ⟨by show (0 : Int) ≤ 0; decide, by show (0 : Int) < 65536; decide⟩
    have m3 := (m1.row (j := 12) (n := 2100) (by omega) zd).sgn (j := 12) (by omega) 0
    have m4 : MI (mclr (mclr (mmov Y 14 i.toNat) 12) 13) g := (m3.row (j := 13) (n := 2100) (by omega) zd).sgn (j := 13) (by omega) 0
    have t00 : mclr (mclr (mmov Y 14 i.toNat) 12) 13 0 0 = 0 := by rw [mclr_off (by omega) (by omega), mclr_off (by omega) (by omega), mmov_off (by omega) (by omega)]; exact hc0
    have t16 : ∀ k, k < 2100 → mclr (mclr (mmov Y 14 i.toNat) 12) 13 16 k = Y (i.toNat + 2) k := fun k hk => by rw [mclr_off (by omega) (by omega), mclr_off (by omega) (by omega), mmov_row hk]
    have t14 : ∀ k, k < 2100 → mclr (mclr (mmov Y 14 i.toNat) 12) 13 14 k = 0 := fun k hk => by rw [mclr_off (by omega) (by omega), mclr_row hk]
    have t15 : ∀ k, k < 2100 → mclr (mclr (mmov Y 14 i.toNat) 12) 13 15 k = 0 := fun k hk => mclr_row hk
    have v16 : vs 65536 (mclr (mclr (mmov Y 14 i.toNat) 12) 13 16) 2100 = g i.toNat := by rw [vs_congr t16, (hc.2 i.toNat (by omega)).1]; omega
    have hLA := (hc.2 i.toNat (by omega)).2.2
    rw [show ((g i.toNat).natAbs : Int) = g i.toNat by omega] at hLA
    generalize hT : mclr (mclr (mmov Y 14 i.toNat) 12) 13 = T at m4 t00 t14 t15 v16
    have hT2 : mclr (mclr (mmov Y 14 i.toNat) 12) 13 = T := hT
    clear t16 m1 m3
    generalize hA : g i.toNat = A at v16 hb hLA hJ
    have d16 : dgs 65536 2100 (T 16) := m4.1 14 (by omega)
    have ln1 : lenr (T 16) 2100 ≤ 1024 := (lenr_iff (B := 65536) (by decide) d16).mpr (by rw [v16]; exact hLA)
    have bl16 := lenr_lt (B := 65536) (by decide) d16
    rw [v16] at bl16
    generalize hN : lenr (T 16) 2100 = L at ln1 bl16
    have hn2 : ((L : Int) / 2 + 3).toNat = L / 2 + 3 := by omega
    generalize hnn : L / 2 + 3 = n at hn2
    have hn3 : n ≤ 515 := by omega
    have hpn : (65536 : Int) ^ n = 65536 ^ (L / 2 + 1) * 4294967296 := by rw [← hnn, show L / 2 + 3 = L / 2 + 1 + 2 by omega, Int.pow_add]; rfl
    have hpp := pw_pos (B := 65536) (by decide) (L / 2 + 1)
    have e13 : (13 : Int).toNat + 2 = 15 := rfl
    have e15 : (15 : Int).toNat + 2 = 17 := rfl
    have e12 : (12 : Int).toNat + 2 = 14 := rfl
    have fin : ∀ (G R O : Nat → Int), dgs 65536 n G → dgs 65536 n R → dgs 65536 n O → vs 65536 O n * vs 65536 O n ≤ A → A < (vs 65536 O n + 1) * (vs 65536 O n + 1) → J (st4 T n G R O) 0 225 [(0, .ref (a 0)), (1, .int (iZ r))] [] := by
      intro G R O dG dR dO hO1 hO2
      have hO0 := vs_nonneg (B := 65536) (by decide) dO
      have dS := st4_d m4.1 dG dR dO
      have mS : MI (st4 T n G R O) g := ⟨dS, fun y hy => by rw [st4_off (by omega) (by omega) (by omega), st4_off (by omega) (by omega) (by omega)]; exact m4.2 y hy⟩
      have vO : vs 65536 (st4 T n G R O 14) 2100 = vs 65536 O n := by
        rw [vs_top (m := n) (by omega) (fun y a1 a2 => by rw [st4_14g a1]; exact t14 y a2), vs_congr (g := O) (fun y hy => st4_14 hy)]
      have d14 : dgs 65536 2100 (st4 T n G R O ((12 : Int).toNat + 2)) := dS 12 (by omega)
      have k14 : lenr (st4 T n G R O 14) 2100 = 0 ↔ vs 65536 O n = 0 := by rw [← vO]; exact lenr_0iff (B := 65536) (by decide) d14
      have l14 := lenr_le (st4 T n G R O 14) 2100
      have s00 : st4 T n G R O 0 = T 0 := st4_off (by omega) (by omega) (by omega)
      have hrt : rt A = vs 65536 O n := rt_eq ⟨hO0, hO1, hO2⟩
      have hfits := root_fits hO0 hO1 bl16
      have hOA : vs 65536 O n < LIM := by
        rcases Int.lt_or_le (vs 65536 O n) 1 with q | q
        · have := LIM_pos; omega
        · have := Int.mul_le_mul_of_nonneg_left q hO0; omega
      generalize hv : vs 65536 O n = v at vO k14 hrt hOA hO0
      generalize st4 T n G R O = S at mS vO d14 k14 l14 s00
      have go2 : ∀ s1 : Int, s1 = v.sign → J (zup S 1 12 s1) 0 246 [(0, .ref (a 0)), (1, .int (iZ r))] [] := by
        intro s1 hs1
        have mF := mS.sgn (j := 12) (by omega) s1
        have y14 : zup S 1 12 s1 14 = S 14 := zup_off _ 1 _ _ (by omega)
        have hf : MI (mmov (zup S 1 12 s1) r.toNat 12) (gset g r.toNat (rt A)) := MI.reg mF (by omega) (mF.1 12 (by omega)) (by rw [y14, vO, hrt]; omega) (by rw [zup_eq, hs1, hrt]) (by rw [hrt]; omega)
        refine j_aload_n hJ dX1_root_246 rfl ?_
        refine j_iload_n hJ dX1_root_247 rfl ?_
        refine j_bipush hJ (by decide) dX1_root_248 ?_
        refine j_callV hJ (kX1_move l D cI a _ _ _ ⟨by omega, by omega⟩ ⟨by omega, by omega⟩) rfl gX1_root_X1_move rfl hdX1_move rfl ⟨Nat.le_of_ble_eq_true rfl, Nat.le_of_ble_eq_true rfl⟩ (Nat.le_of_ble_eq_true rfl) (Nat.le_of_ble_eq_true rfl) rfl rfl dX1_root_250 (fun _ _ h => False.elim h) (fun r250 Z250 hp250 => ?_)
        obtain ⟨rfl, rfl⟩ := hp250
        exact j_vret hJ (Nat.le_of_ble_eq_true rfl) (⟨rfl, by rw [show (12 : Int).toNat = 12 from rfl, mmov_off (by omega) (by omega), zup_ne (by omega), s00]; exact t00, hf⟩) dX1_root_253
      have sc := sg_cases v
      refine j_aload_n hJ dX1_root_225 rfl ?_
      refine m_sign hJ hin (by decide +kernel) dX1_root_226 ?_
      refine j_bipush hJ (by decide) dX1_root_229 ?_
      refine j_aload_n hJ dX1_root_231 rfl ?_
      refine j_bipush hJ (by decide) dX1_root_232 ?_
      refine j_callV hJ (kX1_length l D cI a S 12 ⟨by omega, by omega⟩ d14) rfl gX1_root_X1_length rfl hdX1_length rfl ⟨Nat.le_of_ble_eq_true rfl, Nat.le_of_ble_eq_true rfl⟩ (Nat.le_of_ble_eq_true rfl) (Nat.le_of_ble_eq_true rfl) rfl rfl dX1_root_234 (fun _ _ h => False.elim h) (fun r234 Z234 hp234 => ?_)
      obtain ⟨rfl, rfl⟩ := hp234
      rw [e12]
      refine j_if_ne (tgt := 244) hJ (by decide) ⟨by omega, by omega⟩ dX1_root_237 (fun h237 => ?_) (fun h237 => ?_)
      · refine j_iconst hJ dX1_root_244 ?_
        refine m_ast_sg hJ ⟨by omega, by omega⟩ dX1_root_245 ?_
        exact go2 _ (by omega)
      · refine j_iconst hJ dX1_root_240 ?_
        refine j_goto (tgt := 245) hJ (by decide) dX1_root_241 ?_
        refine m_ast_sg hJ ⟨by omega, by omega⟩ dX1_root_245 ?_
        exact go2 _ (by omega)
    have loop : ∀ (k : Nat) (G R O : Nat → Int), k ≤ 16800 → dgs 65536 n G → dgs 65536 n R → dgs 65536 n O → vs 65536 O n * vs 65536 O n ≤ A / 4 ^ k → A / 4 ^ k < (vs 65536 O n + 1) * (vs 65536 O n + 1) → vs 65536 R n = A / 4 ^ k - vs 65536 O n * vs 65536 O n → J (st4 T n G R O) 0 90 [(0, .ref (a 0)), (1, .int (iZ r)), (3, .int (iZ ((L : Int) / 2 + 3))), (4, .int (iZ ((k : Int) - 1)))] [] := by
      intro k
      induction k with
      | zero =>
        intro G R O hk dG dR dO o1 o2 eR
        rw [Int.pow_zero, Int.ediv_one] at o1 o2
        refine j_iload hJ dX1_root_90 rfl ?_
        refine j_if_lt (tgt := 225) hJ (by decide) ⟨by omega, by omega⟩ dX1_root_92 (fun h92 => ?_) (fun h92 => ?_)
        · exact j_re hJ (fin G R O dG dR dO o1 o2) ⟨rfl, rfl, trivial⟩
        · omega
      | succ k ih =>
        intro G R O hk dG dR dO o1 o2 eR
        rw [show (((k + 1 : Nat) : Int) - 1) = (k : Int) by omega]
        have qt := quarter (A := A) (k := k)
        have r3 : 0 ≤ 2 * (A / 2 ^ (2 * k + 1) % 2) + A / 2 ^ (2 * k) % 2 ∧ 2 * (A / 2 ^ (2 * k + 1) % 2) + A / 2 ^ (2 * k) % 2 < 4 := by omega
        have hO0 := vs_nonneg (B := 65536) (by decide) dO
        have hAk : A / 4 ^ (k + 1) ≤ A := Int.ediv_le_self _ hb
        have hfits := root_fits hO0 (Int.le_trans o1 hAk) bl16
        have hRb : vs 65536 R n ≤ 2 * vs 65536 O n := by rw [eR]; grind
        have st := root_step hO0 o1 o2 r3
        rw [← eR] at st
        have dS := st4_d m4.1 dG dR dO
        have s16 : st4 T n G R O 16 = T 16 := st4_off (by omega) (by omega) (by omega)
        have dd16 : dgs 65536 2100 (st4 T n G R O ((14 : Int).toNat + 2)) := dS 14 (by omega)
        have dd15 : dgs 65536 2100 (st4 T n G R O ((13 : Int).toNat + 2)) := dS 13 (by omega)
        have w15 : vs 65536 (st4 T n G R O 15) n = vs 65536 R n := vs_congr (fun y hy => st4_15 hy)
        have hfit : vs 65536 (st4 T n G R O ((13 : Int).toNat + 2)) ((L : Int) / 2 + 3).toNat * ((2 ^ 2 : Nat) : Int) + (2 * (A / 2 ^ (2 * k + 1) % 2) + A / 2 ^ (2 * k) % 2) < 65536 ^ ((L : Int) / 2 + 3).toNat := by
          rw [hn2, e13, w15, hpn]
          show _ * 4 + _ < _
          omega
        have fin1 : ∀ (G3 f : Nat → Int) (tb : Int) (O2 : Nat → Int), dgs 65536 n G3 → dgs 65536 n f → dgs 65536 n O2 → vs 65536 O2 n * vs 65536 O2 n ≤ A / 4 ^ k → A / 4 ^ k < (vs 65536 O2 n + 1) * (vs 65536 O2 n + 1) → vs 65536 f n = A / 4 ^ k - vs 65536 O2 n * vs 65536 O2 n → J (st4 T n G3 f O2) 0 219 [(0, .ref (a 0)), (1, .int (iZ r)), (3, .int (iZ ((L : Int) / 2 + 3))), (4, .int (iZ (k : Int)))] [] := by
          intro G3 f tb O2 dG3 df dO2 c1 c2 c3
          refine j_iinc hJ (by decide) dX1_root_219 rfl ?_
          refine j_goto (tgt := 90) hJ (by decide) dX1_root_222 ?_
          exact j_re hJ (ih G3 f O2 (by omega) dG3 df dO2 c1 c2 c3) ⟨rfl, rfl, rfl, rfl, trivial⟩
        have aft : ∀ (f : Nat → Int) (tb : Int), dgs 65536 n f → vs 65536 f n = 4 * vs 65536 R n + tb → A / 4 ^ k = 4 * (A / 4 ^ (k + 1)) + tb → (0 ≤ tb ∧ tb < 4) → J (st4 T n G f O) 0 128 [(0, .ref (a 0)), (1, .int (iZ r)), (3, .int (iZ ((L : Int) / 2 + 3))), (4, .int (iZ (k : Int)))] [] := by
          intro f tb hf hv2 qt2 r4
          have st := root_step hO0 o1 o2 r4
          rw [← eR, ← hv2, ← qt2] at st
          have ex : ∀ (G2 : Nat → Int), dgs 65536 n G2 → vs 65536 G2 n = vs 65536 O n → J (st4 T n G2 f O) 0 159 [(0, .ref (a 0)), (1, .int (iZ r)), (3, .int (iZ ((L : Int) / 2 + 3))), (4, .int (iZ (k : Int)))] [] := by
            intro G2 dG2 vG2
            have dS2 := st4_d m4.1 dG2 hf dO
            have dd17 : dgs 65536 2100 (st4 T n G2 f O ((15 : Int).toNat + 2)) := dS2 15 (by omega)
            have w17 : vs 65536 (st4 T n G2 f O 17) n = vs 65536 O n := by rw [vs_congr (g := G2) (fun y hy => st4_17 hy)]; exact vG2
            have hfit2 : vs 65536 (st4 T n G2 f O ((15 : Int).toNat + 2)) ((L : Int) / 2 + 3).toNat * ((2 ^ 2 : Nat) : Int) + 1 < 65536 ^ ((L : Int) / 2 + 3).toNat := by
              rw [hn2, e15, w17, hpn]
              show _ * 4 + _ < _
              omega
            refine j_aload_n hJ dX1_root_159 rfl ?_
            refine j_bipush hJ (by decide) dX1_root_160 ?_
            refine j_iconst hJ dX1_root_162 ?_
            refine j_iconst hJ dX1_root_163 ?_
            refine j_iload_n hJ dX1_root_164 rfl ?_
            refine j_callV hJ (kX1_shift l D cI a _ 15 2 1 ((L : Int) / 2 + 3) ⟨by omega, by omega⟩ (Or.inr rfl) ⟨by decide, by decide⟩ ⟨by omega, by omega⟩ dd17 hfit2) rfl gX1_root_X1_shift rfl hdX1_shift rfl ⟨Nat.le_of_ble_eq_true rfl, Nat.le_of_ble_eq_true rfl⟩ (Nat.le_of_ble_eq_true rfl) (Nat.le_of_ble_eq_true rfl) rfl rfl dX1_root_165 (fun _ _ h => False.elim h) (fun r165 Z165 hp165 => ?_)
            obtain ⟨rfl, G3, rfl, hG3, hv3⟩ := hp165
            rw [hn2, e15, w17] at hv3
            rw [hn2] at hG3
            rw [hn2, e15, st4_G]
            have hv4 : vs 65536 G3 n = 4 * vs 65536 O n + 1 := by rw [hv3]; show _ * 4 + 1 = _; omega
            have dS3 := st4_d m4.1 hG3 hf dO
            have z15 : dgs 65536 2100 (st4 T n G3 f O ((13 : Int).toNat + 2)) := dS3 13 (by omega)
            have z17 : dgs 65536 2100 (st4 T n G3 f O ((15 : Int).toNat + 2)) := dS3 15 (by omega)
            have y15 : vs 65536 (st4 T n G3 f O 15) n = vs 65536 f n := vs_congr (fun y hy => st4_15 hy)
            have y17 : vs 65536 (st4 T n G3 f O 17) n = vs 65536 G3 n := vs_congr (fun y hy => st4_17 hy)
            rw [← hv4] at st
            refine j_aload_n hJ dX1_root_168 rfl ?_
            refine j_bipush hJ (by decide) dX1_root_169 ?_
            refine j_bipush hJ (by decide) dX1_root_171 ?_
            refine j_iload_n hJ dX1_root_173 rfl ?_
            refine j_callV hJ (kX1_isBelow l D cI a _ 13 15 ((L : Int) / 2 + 3) ⟨by omega, by omega⟩ ⟨by omega, by omega⟩ ⟨by omega, by omega⟩ z15 z17) rfl gX1_root_X1_isBelow rfl hdX1_isBelow rfl ⟨Nat.le_of_ble_eq_true rfl, Nat.le_of_ble_eq_true rfl⟩ (Nat.le_of_ble_eq_true rfl) (Nat.le_of_ble_eq_true rfl) rfl rfl dX1_root_174 (fun _ _ h => False.elim h) (fun r174 Z174 hp174 => ?_)
            obtain ⟨rfl, rfl⟩ := hp174
            rw [hn2, e13, e15, y15, y17]
            have hx := ite01 (vs 65536 f n < vs 65536 G3 n)
            generalize (if vs 65536 f n < vs 65536 G3 n then (1 : Int) else 0) = x at hx ⊢
            refine j_if_ne (tgt := 184) hJ (by decide) ⟨by omega, by omega⟩ dX1_root_177 (fun h177 => ?_) (fun h177 => ?_)
            · refine j_iconst hJ dX1_root_184 ?_
              refine j_istore hJ (by decide) dX1_root_185 ?_
              refine j_iload hJ dX1_root_187 rfl ?_
              refine j_if_eq (tgt := 201) hJ (by decide) ⟨by omega, by omega⟩ dX1_root_189 (fun h189 => ?_) (fun h189 => absurd h189 (by decide))
              refine j_aload_n hJ dX1_root_201 rfl ?_
              refine j_bipush hJ (by decide) dX1_root_202 ?_
              refine j_iconst hJ dX1_root_204 ?_
              refine j_iload hJ dX1_root_205 rfl ?_
              refine j_if_eq (tgt := 214) hJ (by decide) ⟨by omega, by omega⟩ dX1_root_207 (fun h207 => ?_) (fun h207 => absurd h207 (by decide))
              refine j_iconst hJ dX1_root_214 ?_
              refine j_iload_n hJ dX1_root_215 rfl ?_
              refine j_callV hJ (by first | exact kX1_shift l D cI a (st4 T n G3 f4 O) 12 1 1 ((L : Int) / 2 + 3) ⟨by omega, by omega⟩ (Or.inl rfl) ⟨by decide, by decide⟩ ⟨by omega, by omega⟩ z14 (by rw [hn2, e12, y14, hpn]; show _ * 2 + _ < _; omega) | exact kX1_shift l D cI a (st4 T n G3 f O) 12 1 0 ((L : Int) / 2 + 3) ⟨by omega, by omega⟩ (Or.inl rfl) ⟨by decide, by decide⟩ ⟨by omega, by omega⟩ (dS3 12 (by omega)) (by rw [hn2, e12, vs_congr (g := O) (fun y hy => st4_14 hy), hpn]; show _ * 2 + _ < _; omega)) rfl gX1_root_X1_shift rfl hdX1_shift rfl ⟨Nat.le_of_ble_eq_true rfl, Nat.le_of_ble_eq_true rfl⟩ (Nat.le_of_ble_eq_true rfl) (Nat.le_of_ble_eq_true rfl) rfl rfl dX1_root_216 (fun _ _ h => False.elim h) (fun r216 Z216 hp216 => ?_)
              obtain ⟨rfl, O2, rfl, hO2, hv6⟩ := hp216
              rw [hn2, e12, vs_congr (g := O) (fun y hy => st4_14 hy)] at hv6
              rw [hn2] at hO2
              rw [hn2, e12, st4_O]
              first | (have hv7 : vs 65536 O2 n = 2 * vs 65536 O n + 1 := (by rw [hv6]; show _ * 2 + 1 = _; omega); exact j_re hJ (fin1 G3 f4 tb O2 hG3 hf4 hO2 (by rw [hv7]; exact st2.1) (by rw [hv7]; exact st2.2.1) (by rw [hv5, hv7]; exact st2.2.2)) ⟨rfl, rfl, rfl, rfl, trivial⟩) | (have st3 := st.2 (by omega); have hv7 : vs 65536 O2 n = 2 * vs 65536 O n := (by rw [hv6]; show _ * 2 + 0 = _; omega); exact j_re hJ (fin1 G3 f tb O2 hG3 hf hO2 (by rw [hv7]; exact st3.1) (by rw [hv7]; exact st3.2.1) (by rw [hv7]; exact st3.2.2)) ⟨rfl, rfl, rfl, rfl, trivial⟩)
            · refine j_iconst hJ dX1_root_180 ?_
              refine j_goto (tgt := 185) hJ (by decide) dX1_root_181 ?_
              refine j_istore hJ (by decide) dX1_root_185 ?_
              refine j_iload hJ dX1_root_187 rfl ?_
              refine j_if_eq (tgt := 201) hJ (by decide) ⟨by omega, by omega⟩ dX1_root_189 (fun h189 => absurd h189 (by decide)) (fun h189 => ?_)
              refine j_aload_n hJ dX1_root_192 rfl ?_
              refine j_bipush hJ (by decide) dX1_root_193 ?_
              refine j_bipush hJ (by decide) dX1_root_195 ?_
              refine j_iload_n hJ dX1_root_197 rfl ?_
              refine j_callV hJ (kX1_lessBy l D cI a _ 13 15 ((L : Int) / 2 + 3) ⟨by omega, by omega⟩ ⟨by omega, by omega⟩ ⟨by omega, by omega⟩ (by omega) z15 z17 (by rw [hn2, e13, e15, y15, y17]; omega)) rfl gX1_root_X1_lessBy rfl hdX1_lessBy rfl ⟨Nat.le_of_ble_eq_true rfl, Nat.le_of_ble_eq_true rfl⟩ (Nat.le_of_ble_eq_true rfl) (Nat.le_of_ble_eq_true rfl) rfl rfl dX1_root_198 (fun _ _ h => False.elim h) (fun r198 Z198 hp198 => ?_)
              obtain ⟨rfl, f4, rfl, hf4, hv5⟩ := hp198
              rw [hn2, e13, e15, y15, y17] at hv5
              rw [hn2] at hf4
              rw [hn2, e13, st4_R]
              have st2 := st.1 (by omega)
              have dS4 := st4_d m4.1 hG3 hf4 dO
              have z14 : dgs 65536 2100 (st4 T n G3 f4 O ((12 : Int).toNat + 2)) := dS4 12 (by omega)
              have y14 : vs 65536 (st4 T n G3 f4 O 14) n = vs 65536 O n := vs_congr (fun y hy => st4_14 hy)
              refine j_aload_n hJ dX1_root_201 rfl ?_
              refine j_bipush hJ (by decide) dX1_root_202 ?_
              refine j_iconst hJ dX1_root_204 ?_
              refine j_iload hJ dX1_root_205 rfl ?_
              refine j_if_eq (tgt := 214) hJ (by decide) ⟨by omega, by omega⟩ dX1_root_207 (fun h207 => absurd h207 (by decide)) (fun h207 => ?_)
              refine j_iconst hJ dX1_root_210 ?_
              refine j_goto (tgt := 215) hJ (by decide) dX1_root_211 ?_
              refine j_iload_n hJ dX1_root_215 rfl ?_
              refine j_callV hJ (by first | exact kX1_shift l D cI a (st4 T n G3 f4 O) 12 1 1 ((L : Int) / 2 + 3) ⟨by omega, by omega⟩ (Or.inl rfl) ⟨by decide, by decide⟩ ⟨by omega, by omega⟩ z14 (by rw [hn2, e12, y14, hpn]; show _ * 2 + _ < _; omega) | exact kX1_shift l D cI a (st4 T n G3 f O) 12 1 0 ((L : Int) / 2 + 3) ⟨by omega, by omega⟩ (Or.inl rfl) ⟨by decide, by decide⟩ ⟨by omega, by omega⟩ (dS3 12 (by omega)) (by rw [hn2, e12, vs_congr (g := O) (fun y hy => st4_14 hy), hpn]; show _ * 2 + _ < _; omega)) rfl gX1_root_X1_shift rfl hdX1_shift rfl ⟨Nat.le_of_ble_eq_true rfl, Nat.le_of_ble_eq_true rfl⟩ (Nat.le_of_ble_eq_true rfl) (Nat.le_of_ble_eq_true rfl) rfl rfl dX1_root_216 (fun _ _ h => False.elim h) (fun r216 Z216 hp216 => ?_)
              obtain ⟨rfl, O2, rfl, hO2, hv6⟩ := hp216
              rw [hn2, e12, vs_congr (g := O) (fun y hy => st4_14 hy)] at hv6
              rw [hn2] at hO2
              rw [hn2, e12, st4_O]
              first | (have hv7 : vs 65536 O2 n = 2 * vs 65536 O n + 1 := (by rw [hv6]; show _ * 2 + 1 = _; omega); exact j_re hJ (fin1 G3 f4 tb O2 hG3 hf4 hO2 (by rw [hv7]; exact st2.1) (by rw [hv7]; exact st2.2.1) (by rw [hv5, hv7]; exact st2.2.2)) ⟨rfl, rfl, rfl, rfl, trivial⟩) | (have st3 := st.2 (by omega); have hv7 : vs 65536 O2 n = 2 * vs 65536 O n := (by rw [hv6]; show _ * 2 + 0 = _; omega); exact j_re hJ (fin1 G3 f tb O2 hG3 hf hO2 (by rw [hv7]; exact st3.1) (by rw [hv7]; exact st3.2.1) (by rw [hv7]; exact st3.2.2)) ⟨rfl, rfl, rfl, rfl, trivial⟩)
          have r14 : st4 T n G f O 14 = st4 T n G f O 14 := rfl
          generalize hS1 : st4 T n G f O = S1 at r14
          have inner : ∀ (u x : Nat), x + u = n → J (zrw S1 17 x (S1 14)) 0 131 [(0, .ref (a 0)), (1, .int (iZ r)), (3, .int (iZ ((L : Int) / 2 + 3))), (4, .int (iZ (k : Int))), (5, .int (iZ x))] [] := by
            intro u
            induction u with
            | zero =>
              intro x hx
              have hx2 : x = n := by omega
              subst hx2
              have dG2 : dgs 65536 x (S1 14) := fun y hy => by rw [← hS1, st4_14 hy]; exact dO y hy
              have vG2 : vs 65536 (S1 14) x = vs 65536 O x := vs_congr (fun y hy => by rw [← hS1, st4_14 hy])
              have eS : zrw S1 17 x (S1 14) = st4 T x (S1 14) f O := by
                generalize S1 14 = W
                rw [← hS1, st4_G]
              rw [eS]
              refine j_iload hJ dX1_root_131 rfl ?_
              refine j_iload_n hJ dX1_root_133 rfl ?_
              refine j_icmp_ge (tgt := 159) hJ (by decide) ⟨by omega, by omega⟩ ⟨by omega, by omega⟩ dX1_root_134 (fun h134 => ?_) (fun h134 => ?_)
              · exact j_re hJ (ex _ dG2 vG2) ⟨rfl, rfl, rfl, rfl, trivial⟩
              · omega
            | succ u ihu =>
              intro x hx
              have e14 : zrw S1 17 x (S1 14) 14 = S1 14 := zrw_off (by decide)
              refine j_iload hJ dX1_root_131 rfl ?_
              refine j_iload_n hJ dX1_root_133 rfl ?_
              refine j_icmp_ge (tgt := 159) hJ (by decide) ⟨by omega, by omega⟩ ⟨by omega, by omega⟩ dX1_root_134 (fun h134 => ?_) (fun h134 => ?_)
              · omega
              · refine j_aload_n hJ dX1_root_137 rfl ?_
                refine j_bipush hJ (by decide) dX1_root_138 ?_
                refine j_iload hJ dX1_root_140 rfl ?_
                refine j_aload_n hJ dX1_root_142 rfl ?_
                refine j_bipush hJ (by decide) dX1_root_143 ?_
                refine j_iload hJ dX1_root_145 rfl ?_
                refine j_callV hJ (kX1_get l D cI a _ _ _ ⟨by omega, by omega⟩ ⟨by omega, by omega⟩) rfl gX1_root_X1_get rfl hdX1_get rfl ⟨Nat.le_of_ble_eq_true rfl, Nat.le_of_ble_eq_true rfl⟩ (Nat.le_of_ble_eq_true rfl) (Nat.le_of_ble_eq_true rfl) rfl rfl dX1_root_147 (fun _ _ h => False.elim h) (fun r147 Z147 hp147 => ?_)
                obtain ⟨rfl, rfl⟩ := hp147
                rw [e12, show ((x : Nat) : Int).toNat = x by omega, e14]
                refine j_callV hJ (kX1_put l D cI a _ _ _ _ ⟨by omega, by omega⟩ ⟨by omega, by omega⟩) rfl gX1_root_X1_put rfl hdX1_put rfl ⟨Nat.le_of_ble_eq_true rfl, Nat.le_of_ble_eq_true rfl⟩ (Nat.le_of_ble_eq_true rfl) (Nat.le_of_ble_eq_true rfl) rfl rfl dX1_root_150 (fun _ _ h => False.elim h) (fun r150 Z150 hp150 => ?_)
                obtain ⟨rfl, rfl⟩ := hp150
                rw [e15, show ((x : Nat) : Int).toNat = x by omega, zrw_succ]
                refine j_iinc hJ (by decide) dX1_root_153 rfl ?_
                refine j_goto (tgt := 131) hJ (by decide) dX1_root_156 ?_
                exact j_re hJ (ihu (x + 1) (by omega)) ⟨rfl, rfl, rfl, rfl, rfl, trivial⟩
          refine j_iconst hJ dX1_root_128 ?_
          refine j_istore hJ (by decide) dX1_root_129 ?_
          have h9 := inner n 0 (by omega)
          rw [zrw_0] at h9
          exact j_re hJ h9 ⟨rfl, rfl, rfl, rfl, rfl, trivial⟩
        refine j_iload hJ dX1_root_90 rfl ?_
        refine j_if_lt (tgt := 225) hJ (by decide) ⟨by omega, by omega⟩ dX1_root_92 (fun h92 => ?_) (fun h92 => ?_)
        · omega
        · refine j_aload_n hJ dX1_root_95 rfl ?_
          refine j_bipush hJ (by decide) dX1_root_96 ?_
          refine j_iconst hJ dX1_root_98 ?_
          refine j_iconst hJ dX1_root_99 ?_
          refine j_aload_n hJ dX1_root_100 rfl ?_
          refine j_bipush hJ (by decide) dX1_root_101 ?_
          refine j_iconst hJ dX1_root_103 ?_
          refine j_iload hJ dX1_root_104 rfl ?_
          refine j_imul hJ dX1_root_106 ?_
          refine j_iconst hJ dX1_root_107 ?_
          refine j_iadd hJ dX1_root_108 ?_
          rw [show 2 * (k : Int) + 1 = ((2 * k + 1 : Nat) : Int) by omega]
          refine j_callV hJ (kX1_bit l D cI a _ 14 (2 * k + 1) ⟨by omega, by omega⟩ (by omega) dd16) rfl gX1_root_X1_bit rfl hdX1_bit rfl ⟨Nat.le_of_ble_eq_true rfl, Nat.le_of_ble_eq_true rfl⟩ (Nat.le_of_ble_eq_true rfl) (Nat.le_of_ble_eq_true rfl) rfl rfl dX1_root_109 (fun _ _ h => False.elim h) (fun r109 Z109 hp109 => ?_)
          obtain ⟨rfl, rfl⟩ := hp109
          rw [show (14 : Int).toNat + 2 = 16 from rfl, s16, v16]
          refine j_imul hJ dX1_root_112 ?_
          refine j_aload_n hJ dX1_root_113 rfl ?_
          refine j_bipush hJ (by decide) dX1_root_114 ?_
          refine j_iconst hJ dX1_root_116 ?_
          refine j_iload hJ dX1_root_117 rfl ?_
          refine j_imul hJ dX1_root_119 ?_
          rw [show 2 * (k : Int) = ((2 * k : Nat) : Int) by omega]
          refine j_callV hJ (kX1_bit l D cI a _ 14 (2 * k) ⟨by omega, by omega⟩ (by omega) dd16) rfl gX1_root_X1_bit rfl hdX1_bit rfl ⟨Nat.le_of_ble_eq_true rfl, Nat.le_of_ble_eq_true rfl⟩ (Nat.le_of_ble_eq_true rfl) (Nat.le_of_ble_eq_true rfl) rfl rfl dX1_root_120 (fun _ _ h => False.elim h) (fun r120 Z120 hp120 => ?_)
          obtain ⟨rfl, rfl⟩ := hp120
          rw [show (14 : Int).toNat + 2 = 16 from rfl, s16, v16]
          refine j_iadd hJ dX1_root_123 ?_
          generalize 2 * (A / 2 ^ (2 * k + 1) % 2) + A / 2 ^ (2 * k) % 2 = tb at qt r3 st hfit ⊢
          refine j_iload_n hJ dX1_root_124 rfl ?_
          refine j_callV hJ (kX1_shift l D cI a _ 13 2 tb ((L : Int) / 2 + 3) ⟨by omega, by omega⟩ (Or.inr rfl) ⟨r3.1, r3.2⟩ ⟨by omega, by omega⟩ dd15 hfit) rfl gX1_root_X1_shift rfl hdX1_shift rfl ⟨Nat.le_of_ble_eq_true rfl, Nat.le_of_ble_eq_true rfl⟩ (Nat.le_of_ble_eq_true rfl) (Nat.le_of_ble_eq_true rfl) rfl rfl dX1_root_125 (fun _ _ h => False.elim h) (fun r125 Z125 hp125 => ?_)
          obtain ⟨rfl, f, rfl, hf, hv⟩ := hp125
          rw [hn2, e13, w15] at hv
          rw [hn2] at hf
          rw [hn2, e13, st4_R]
          have hv2 : vs 65536 f n = 4 * vs 65536 R n + tb := by rw [hv]; show _ * 4 + _ = _; omega
          exact j_re hJ (aft f tb hf hv2 qt r3) ⟨rfl, rfl, rfl, rfl, trivial⟩
    have d16' : dgs 65536 2100 (T ((14 : Int).toNat + 2)) := d16
    refine j_aload_n hJ dX1_root_46 rfl ?_
    refine j_bipush hJ (by decide) dX1_root_47 ?_
    refine j_iload_n hJ dX1_root_49 rfl ?_
    refine j_callV hJ (kX1_move l D cI a _ _ _ ⟨by omega, by omega⟩ ⟨by omega, by omega⟩) rfl gX1_root_X1_move rfl hdX1_move rfl ⟨Nat.le_of_ble_eq_true rfl, Nat.le_of_ble_eq_true rfl⟩ (Nat.le_of_ble_eq_true rfl) (Nat.le_of_ble_eq_true rfl) rfl rfl dX1_root_50 (fun _ _ h => False.elim h) (fun r50 Z50 hp50 => ?_)
    obtain ⟨rfl, rfl⟩ := hp50
    refine j_aload_n hJ dX1_root_53 rfl ?_
    refine j_bipush hJ (by decide) dX1_root_54 ?_
    refine j_callV hJ (kX1_clear l D cI a _ _ ⟨by omega, by omega⟩) rfl gX1_root_X1_clear rfl hdX1_clear rfl ⟨Nat.le_of_ble_eq_true rfl, Nat.le_of_ble_eq_true rfl⟩ (Nat.le_of_ble_eq_true rfl) (Nat.le_of_ble_eq_true rfl) rfl rfl dX1_root_56 (fun _ _ h => False.elim h) (fun r56 Z56 hp56 => ?_)
    obtain ⟨rfl, rfl⟩ := hp56
    refine j_aload_n hJ dX1_root_59 rfl ?_
    refine j_bipush hJ (by decide) dX1_root_60 ?_
    refine j_callV hJ (kX1_clear l D cI a _ _ ⟨by omega, by omega⟩) rfl gX1_root_X1_clear rfl hdX1_clear rfl ⟨Nat.le_of_ble_eq_true rfl, Nat.le_of_ble_eq_true rfl⟩ (Nat.le_of_ble_eq_true rfl) (Nat.le_of_ble_eq_true rfl) rfl rfl dX1_root_62 (fun _ _ h => False.elim h) (fun r62 Z62 hp62 => ?_)
    obtain ⟨rfl, rfl⟩ := hp62
    rw [show (14 : Int).toNat = 14 from rfl, show (12 : Int).toNat = 12 from rfl, show (13 : Int).toNat = 13 from rfl, hT2]
    refine j_aload_n hJ dX1_root_65 rfl ?_
    refine j_bipush hJ (by decide) dX1_root_66 ?_
    refine j_callV hJ (kX1_length l D cI a T 14 ⟨by omega, by omega⟩ d16') rfl gX1_root_X1_length rfl hdX1_length rfl ⟨Nat.le_of_ble_eq_true rfl, Nat.le_of_ble_eq_true rfl⟩ (Nat.le_of_ble_eq_true rfl) (Nat.le_of_ble_eq_true rfl) rfl rfl dX1_root_68 (fun _ _ h => False.elim h) (fun r68 Z68 hp68 => ?_)
    obtain ⟨rfl, rfl⟩ := hp68
    rw [show (14 : Int).toNat + 2 = 16 from rfl, hN]
    refine j_iconst hJ dX1_root_71 ?_
    refine j_idiv hJ (by omega) ⟨by omega, by omega⟩ ⟨by omega, by omega⟩ (by omega) dX1_root_72 ?_
    refine j_iconst hJ dX1_root_73 ?_
    refine j_iadd hJ dX1_root_74 ?_
    refine j_istore_n hJ (by decide) dX1_root_75 ?_
    refine j_aload_n hJ dX1_root_76 rfl ?_
    refine j_bipush hJ (by decide) dX1_root_77 ?_
    refine j_callV hJ (kX1_bitsOf l D cI a T 14 ⟨by omega, by omega⟩ d16') rfl gX1_root_X1_bitsOf rfl hdX1_bitsOf rfl ⟨Nat.le_of_ble_eq_true rfl, Nat.le_of_ble_eq_true rfl⟩ (Nat.le_of_ble_eq_true rfl) (Nat.le_of_ble_eq_true rfl) rfl rfl dX1_root_79 (fun _ _ h => False.elim h) (fun r79 Z79 hp79 => ?_)
    obtain ⟨⟨zb, rfl, hzb, hzb2⟩, rfl⟩ := hp79
    rw [show (14 : Int).toNat + 2 = 16 from rfl, v16] at hzb
    refine j_iconst hJ dX1_root_82 ?_
    refine j_iadd hJ dX1_root_83 ?_
    refine j_iconst hJ dX1_root_84 ?_
    refine j_idiv hJ (by omega) ⟨by omega, by omega⟩ ⟨by omega, by omega⟩ (by omega) dX1_root_85 ?_
    refine j_iconst hJ dX1_root_86 ?_
    refine j_isub hJ dX1_root_87 ?_
    refine j_istore hJ (by decide) dX1_root_88 ?_
    have hp4 : (2 : Int) ^ zb ≤ 4 ^ ((zb + 1) / 2) := by (rw [show (4 : Int) = 2 ^ 2 by decide, pw_mul]; exact pw_mono (by decide) (by omega))
    have hA2 : A / 4 ^ ((zb + 1) / 2) = 0 := Int.ediv_eq_zero_of_lt hb (by have := hzb.1; omega)
    have d17 : dgs 65536 n (T 17) := dgs_mono (m4.1 15 (by omega)) (by omega)
    have v0 : vs 65536 (fun _ => 0) n = 0 := vs_zero (fun _ _ => rfl)
    have h9 := loop ((zb + 1) / 2) (T 17) (fun _ => 0) (fun _ => 0) (by omega) d17 (dgs_mono zd (by omega)) (dgs_mono zd (by omega)) (by rw [v0, hA2]; decide) (by rw [v0, hA2]; decide) (by rw [v0, hA2]; decide)
    unfold st4 at h9
    rw [zrw_id (fun _ _ => rfl), zrw_id (fun y hy => (t15 y (by omega)).symm), zrw_id (fun y hy => (t14 y (by omega)).symm)] at h9
    exact j_re hJ h9 ⟨rfl, rfl, rfl, by show some (Value.int (iZ (((zb : Int) + 1) / 2 - 1))) = _; rw [show (((zb + 1) / 2 : Nat) : Int) - 1 = ((zb : Int) + 1) / 2 - 1 by omega], trivial⟩
  refine j_aload_n hJ dX1_root_0 rfl ?_
  refine j_iload_n hJ dX1_root_1 rfl ?_
  refine j_callS hJ (kX1_isRegister l D _ ⟨by omega, by omega⟩) rfl gX1_root_X1_isRegister rfl hsX1_isRegister rfl ⟨Nat.le_of_ble_eq_true rfl, Nat.le_of_ble_eq_true rfl⟩ (Nat.le_of_ble_eq_true rfl) (Nat.le_of_ble_eq_true rfl) dX1_root_2 (fun _ h => False.elim h) (fun r2 hp2 => ?_)
  subst hp2
  refine j_if_eq (tgt := 19) hJ (by decide) ⟨by omega, by omega⟩ dX1_root_5 (fun h5 => ?_) (fun h5 => ?_)
  · rw [if_neg (by omega)] at hJ
    refine j_iconst hJ dX1_root_19 ?_
    refine m_putcode hJ hin (by decide +kernel) dX1_root_20 ?_
    refine j_aload_n hJ dX1_root_23 rfl ?_
    refine m_code hJ hin (by decide +kernel) dX1_root_24 ?_
    rw [zup_eq]
    refine j_if_le (tgt := 31) hJ (by decide) ⟨by omega, by omega⟩ dX1_root_27 (fun h27 => absurd h27 (by decide)) (fun h27 => ?_)
    exact j_vret hJ (Nat.le_of_ble_eq_true rfl) (⟨rfl, zup_eq _ _ _ _, hI.code 1⟩) dX1_root_30
  · refine j_iload_n hJ dX1_root_8 rfl ?_
    refine j_callS hJ (kX1_isRegister l D _ ⟨by omega, by omega⟩) rfl gX1_root_X1_isRegister rfl hsX1_isRegister rfl ⟨Nat.le_of_ble_eq_true rfl, Nat.le_of_ble_eq_true rfl⟩ (Nat.le_of_ble_eq_true rfl) (Nat.le_of_ble_eq_true rfl) dX1_root_9 (fun _ h => False.elim h) (fun r9 hp9 => ?_)
    subst hp9
    refine j_if_eq (tgt := 19) hJ (by decide) ⟨by omega, by omega⟩ dX1_root_12 (fun h12 => ?_) (fun h12 => ?_)
    · rw [if_neg (by omega)] at hJ
      refine j_iconst hJ dX1_root_19 ?_
      refine m_putcode hJ hin (by decide +kernel) dX1_root_20 ?_
      refine j_aload_n hJ dX1_root_23 rfl ?_
      refine m_code hJ hin (by decide +kernel) dX1_root_24 ?_
      rw [zup_eq]
      refine j_if_le (tgt := 31) hJ (by decide) ⟨by omega, by omega⟩ dX1_root_27 (fun h27 => absurd h27 (by decide)) (fun h27 => ?_)
      exact j_vret hJ (Nat.le_of_ble_eq_true rfl) (⟨rfl, zup_eq _ _ _ _, hI.code 1⟩) dX1_root_30
    · rw [if_pos ⟨⟨by omega, by omega⟩, ⟨by omega, by omega⟩⟩] at hJ
      have sj := (hI.2 i.toNat (by omega)).2.1
      have scj := sg_cases (g i.toNat)
      refine j_iconst hJ dX1_root_15 ?_
      refine j_goto (tgt := 20) hJ (by decide) dX1_root_16 ?_
      refine m_putcode hJ hin (by decide +kernel) dX1_root_20 ?_
      refine j_aload_n hJ dX1_root_23 rfl ?_
      refine m_code hJ hin (by decide +kernel) dX1_root_24 ?_
      rw [zup_eq]
      refine j_if_le (tgt := 31) hJ (by decide) ⟨by omega, by omega⟩ dX1_root_27 (fun h27 => ?_) (fun h27 => absurd h27 (by decide))
      refine j_aload_n hJ dX1_root_31 rfl ?_
      refine m_sign hJ hin (by decide +kernel) dX1_root_32 ?_
      refine j_iload_n hJ dX1_root_35 rfl ?_
      refine m_ald_sg hJ ⟨by omega, by omega⟩ dX1_root_36 ?_
      rw [zup_off _ 0 _ _ (by omega), sj]
      refine j_if_ge (tgt := 46) hJ (by decide) ⟨by omega, by omega⟩ dX1_root_37 (fun h37 => ?_) (fun h37 => ?_)
      · rw [if_neg (by omega)] at hJ
        exact j_re hJ (main ⟨by omega, by omega⟩ ⟨by omega, by omega⟩ (by omega) hJ) ⟨rfl, rfl, rfl, trivial⟩
      · rw [if_pos (by omega)] at hJ
        refine j_aload_n hJ dX1_root_40 rfl ?_
        refine j_iconst hJ dX1_root_41 ?_
        refine m_putcode hJ hin (by decide +kernel) dX1_root_42 ?_
        exact j_vret hJ (Nat.le_of_ble_eq_true rfl) (⟨rfl, zup_eq _ _ _ _, (hI.code 0).code 2⟩) dX1_root_45
end M12
end
