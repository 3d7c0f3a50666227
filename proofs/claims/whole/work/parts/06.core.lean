theorem iZ_div {a b : Int} (ha : i32 a) (hb : i32 b) (h0 : 0 ≤ a) : iZ a / iZ b = iZ (a / b) := by
  apply Int32.toInt.inj
  rw [Int32.toInt_div, iZ_toInt ha, iZ_toInt hb, Int.tdiv_eq_ediv_of_nonneg h0]
  show _ = (Int32.ofInt _).toInt
  rw [Int32.toInt_ofInt]
theorem lZ_div {a b : Int} (ha : i64 a) (hb : i64 b) (h0 : 0 ≤ a) : lZ a / lZ b = lZ (a / b) := by
  apply Int64.toInt.inj
  rw [Int64.toInt_div, lZ_toInt ha, lZ_toInt hb, Int.tdiv_eq_ediv_of_nonneg h0]
  show _ = (Int64.ofInt _).toInt
  rw [Int64.toInt_ofInt]
theorem iZ_rem {a b : Int} (ha : i32 a) (hb : i32 b) (h0 : 0 ≤ a) : iZ a - iZ a / iZ b * iZ b = iZ (a % b) := by
  rw [iZ_div ha hb h0, iZ_mul, iZ_sub]
  congr 1
  have := Int.mul_ediv_add_emod a b
  rw [Int.mul_comm b] at this
  omega
theorem lZ_rem {a b : Int} (ha : i64 a) (hb : i64 b) (h0 : 0 ≤ a) : lZ a - lZ a / lZ b * lZ b = lZ (a % b) := by
  rw [lZ_div ha hb h0, lZ_mul, lZ_sub]
  congr 1
  have := Int.mul_ediv_add_emod a b
  rw [Int.mul_comm b] at this
  omega
/-! what a throw needs beside the words: the two statics of Throwable, the texts, the classes' own casts -/
def exT : List (Nat × String) := [(46, "the number is too long"), (106, "there is no such register"), (100, "the modulus is below 1"), (97, "there is no such word"), (86, "the root of a number below 0"), (72, "division by 0"), (69, "the quotient and the rest need two registers")]
/-- words of a throw that the tables decide but no link keeps -/
def exW : List Cond := [.castable "java/lang/IndexOutOfBoundsException" "java/lang/IndexOutOfBoundsException", .castable "java/lang/IllegalStateException" "java/lang/IllegalStateException", .castable "java/lang/IllegalArgumentException" "java/lang/IllegalArgumentException", .declares (Bundle.initS "java/lang/RuntimeException"), .declares (Bundle.initS "java/lang/Exception"), .declares (Bundle.initS Bundle.tN)]
theorem exW_ok : ∀ w ∈ exW, w.faceAtom = true ∧ w.onTables = true := by decide +kernel
def exS (U : State) : Prop := (∀ w ∈ exW, w.before #[] U = true) ∧ ∀ q ∈ exT, ∃ a, vk_R RX0 q.1 q.2 a U
theorem exS.warm {s U : State} (hW : s.WarmedH U.vm) (h : exS s) : exS U := by
  refine ⟨fun w hw => ?_, fun q hq => ?_⟩
  · have h1 := Cond.faceAtom_setVm hW.alike w (exW_ok w hw).1 (h.1 w hw)
    exact va_tabs (u := s.setVm U.vm) (exW_ok w hw).2 rfl h1
  · obtain ⟨a, ha⟩ := h.2 q hq
    exact ⟨a, vk_R.warm hW ha⟩
def exZ (A : Nat → Prop) (U : State) (H : Heap) : Prop := vx_Zq Bundle.tN "UNASSIGNED_STACK" Bundle.steD A U H ∧ vx_Zq Bundle.tN "SUPPRESSED_SENTINEL" Bundle.listD A U H ∧ exS U
theorem exZ.kept {A : Nat → Prop} {U : State} {H H1 : Heap} (h : exZ A U H) (hq : ∀ a : Nat, a < H.size → ¬ A a → H1[a]? = H[a]?) : exZ A U H1 := ⟨h.1.kept hq, h.2.1.kept hq, h.2.2⟩
theorem exZ.narrow {A B : Nat → Prop} {U : State} {H : Heap} (h : exZ A U H) (hAB : ∀ q, B q → A q) : exZ B U H := ⟨h.1.narrow hAB, h.2.1.narrow hAB, h.2.2⟩
theorem exZ.warm {A : Nat → Prop} {s U : State} {H : Heap} (hW : s.WarmedH U.vm) (h : exZ A s H) : exZ A U H := ⟨h.1.moved hW.alike, h.2.1.moved hW.alike, h.2.2.warm hW⟩
/-! the walk's judgement: the state of the world, the cells made so far, the place, the locals, the stack -/
section JD
variable {σ : Type}
abbrev JT (σ : Type) : Type := σ → Nat → Nat → List (Nat × Value) → List Value → Prop
def wlH (D : va_G) (tys : List (ClassId × FieldType)) (wf : σ → va_W) (A : Nat → Prop) (s : State) (x : σ) (H : Heap) (locs : List Loc) : Prop :=
  va_P D vwCl (wf x) H ∧ va_D A (wf x) ∧ va_S A s.heap H locs
def gPre (D : va_G) (tys : List (ClassId × FieldType)) (wf : σ → va_W) (sz : Nat) (x : σ) : State → Prop := fun U =>
  U.heap.size = sz ∧ va_P D vwCl (wf x) U.heap ∧ va_K D vwCl tys U ∧ va_D (fun _ => True) (wf x) ∧ exZ (va_A (wf x) sz) U U.heap
def gB (D : va_G) (tys : List (ClassId × FieldType)) (wf : σ → va_W) (A : Nat → Prop) (x : σ) (t : State) : Prop := va_P D vwCl (wf x) t.heap ∧ va_D A (wf x)
def Q9 (post : Option Value → σ → Prop) (B : σ → State → Prop) (A : Nat → Prop) : Array Value → State → Outcome → State → Prop := fun _ st oc t => (∃ (r : Option Value) (u : σ), oc = .returned r ∧ post r u ∧ B u t) ∧ va_F A st t
def X9 (px : String → σ → Prop) (B : σ → State → Prop) (A : Nat → Prop) : String → State → State → Prop := fun E st t => ∃ u : σ, px E u ∧ B u t ∧ va_F A st t
abbrev rmK (F k LL : Nat) : Room := { frames := F, cells := k, slots := 6 * k, locals := LL }
/-- a method's contract: from the world of x it returns as post says, or throws as px says -/
def Ct (l : Launch) (D : va_G) (tys : List (ClassId × FieldType)) (wf : σ → va_W) (y : MethodName) (ws : List Cond) (F k LL : Nat) (As : List Value) (x : σ) (post : Option Value → σ → Prop) (px : String → σ → Prop) : Prop :=
  ∀ sz : Nat, vx_Met l y ws (rmK F k LL) (va_Pc As (gPre D tys wf sz x)) (Q9 post (gB D tys wf (va_A (wf x) sz)) (va_A (wf x) sz)) (X9 px (gB D tys wf (va_A (wf x) sz)) (va_A (wf x) sz)) k (6 * k) (va_A (wf x) sz)
def Jd (p : Program) (l : Launch) (e : Env) (R : Room) (s : State) (m : MethodId) (args : Array Value) (below : List Frame) (meth : Method) (c : Code) (Q : State → Prop) (D : va_G) (tys : List (ClassId × FieldType)) (wf : σ → va_W) (A : Nat → Prop) (nL : Nat) : JT σ := fun x k pc lv st =>
  ∀ (H : Heap) (locs : List Loc) (ls : Array Slot), wlH D tys wf A s x H locs → lv_has ls nL lv → W p l e R s m args below meth c H locs k (6 * k) Q (F0 m pc ls st)
def IsJ (l : Launch) (D : va_G) (tys : List (ClassId × FieldType)) (wf : σ → va_W) (cc : ByteArray) (nL : Nat) (Ts : List Cond) (own : String) (F km LL : Nat) (rt : Option FieldType) (post : Option Value → σ → Prop) (px : String → σ → Prop) (J : JT σ) : Prop :=
  ∃ (p : Program) (e : Env) (s : State) (m : MethodId) (args : Array Value) (below : List Frame) (meth : Method) (c : Code) (A : Nat → Prop),
    CallFix p m c cc nL s args Ts own ∧ exZ A s s.heap ∧ (meth.sig.returnType = rt ∧ meth.locks = false ∧ ∀ x ∈ c.exceptionTable.toList, False) ∧ va_K D vwCl tys s ∧ (∀ q, s.heap.size ≤ q → A q) ∧
    J = Jd p l e (rmK F km LL) s m args below meth c (vx_MQ below (Q9 post (gB D tys wf A) A) (X9 px (gB D tys wf A) A) args s km (6 * km) A) D tys wf A nL
/-- a contract out of a walk -/
theorem Ct.of {l : Launch} {D : va_G} {tys : List (ClassId × FieldType)} {wf : σ → va_W} {y : MethodName} {ws ws' : List Cond} {F k LL : Nat} {As : List Value} {x : σ} {post : Option Value → σ → Prop} {px : String → σ → Prop} {cc : ByteArray} {maxL : Nat} {ret : Option FieldType}
    {own : String} (ho : y.cls = own) (hy : plainName y.cls = true) (hw : ws = Cond.code y cc maxL ret :: ws') (hn : (lg_sl As).length ≤ maxL)
    (body : ∀ J : JT σ, IsJ l D tys wf cc maxL ws own F k LL ret post px J → J x 0 0 (lv_args 0 As) []) : Ct l D tys wf y ws F k LL As x post px := by
  subst ho
  intro sz
  refine vx_ofW (cc := cc) (maxL := maxL) (ret := ret) hy hw ?_
  intro p e s m args below meth c s₁ B hml htb hv
  obtain ⟨rfl, hsz, hP, hK, hD0, hE⟩ := hv
  have hts := atoms_spec (ws := ws) B.pre
  have hown : s.vm.findClass y.cls = some m.cls := findClass_of_methodNamed B.named
  subst hsz
  have hD := hD0.self (sz := s.heap.size)
  have hA : ∀ q : Nat, s.heap.size ≤ q → va_A (wf x) s.heap.size q := fun q h => Or.inr h
  have hl := lv_entry As hn
  rw [lg_entry_eq]
  have hJ := body _ ⟨p, e, s, m, As.toArray, below, meth, c, va_A (wf x) s.heap.size, ⟨B.exec, B.bytes, hml, hown, hts⟩, hE, ⟨B.returns, B.notSynchronized, htb⟩, hK, hA, rfl⟩
  exact hJ s.heap [] _ ⟨hP, hD, va_S.rf⟩ hl
section Rows
variable {l : Launch} {D : va_G} {tys : List (ClassId × FieldType)} {wf : σ → va_W} {cc : ByteArray} {nL : Nat} {Ts : List Cond} {own : String} {F km LL : Nat} {rt : Option FieldType} {post : Option Value → σ → Prop} {px : String → σ → Prop} {J : JT σ}
variable {x : σ} {k pc : Nat} {lv : List (Nat × Value)} {rest : List Value}
/-- the locals, listed anew -/
def lvg (lv : List (Nat × Value)) (i : Nat) : Option Value := match lv with
  | [] => none
  | q :: r => if q.1 = i then some q.2 else lvg r i
theorem lvg_at {ls : Array Slot} {n : Nat} {lv : List (Nat × Value)} (h : lv_has ls n lv) {i : Nat} {v : Value} (hv : lvg lv i = some v) : ls[i]? = some (.val v) := by
  have hm : (i, v) ∈ lv := by
    clear h
    induction lv with
    | nil => cases hv
    | cons q r ih =>
      unfold lvg at hv
      split at hv
      · rename_i hq
        cases hv
        rw [← hq]
        exact List.mem_cons_self
      · exact List.mem_cons_of_mem _ (ih hv)
  exact h.2.2 _ hm
theorem lv_re {ls : Array Slot} {n : Nat} {lv lv' : List (Nat × Value)} (h : lv_has ls n lv) (hv : ∀ q ∈ lv', lvg lv q.1 = some q.2) : lv_has ls n lv' := ⟨h.1, h.2.1, fun q hq => lvg_at h (hv q hq)⟩
/-- 'lv' holds all of lv2' as a walk of lists that rfl decides -/
def lvs (lv : List (Nat × Value)) : List (Nat × Value) → Prop
  | [] => True
  | q :: r => lvg lv q.1 = some q.2 ∧ lvs lv r
theorem lvs_all {lv : List (Nat × Value)} : ∀ {lv' : List (Nat × Value)}, lvs lv lv' → ∀ q ∈ lv', lvg lv q.1 = some q.2
  | [], _, q, hq => nomatch hq
  | _ :: _, h, q, hq => (List.mem_cons.mp hq).elim (fun e => by rw [e]; exact h.1) (lvs_all h.2 q)
theorem j_re (hJ : IsJ l D tys wf cc nL Ts own F km LL rt post px J) {lv' : List (Nat × Value)} {st : List Value} (kk : J x k pc lv' st) (h : lvs lv lv') : J x k pc lv st := by
  obtain ⟨p, e, s, m, args, below, meth, c, A, CF, hE, hM, hK, hA, rfl⟩ := hJ
  intro H locs ls hw hl
  exact kk H locs ls hw (lv_re hl (lvs_all h))
end Rows
end JD
