/-! the walk over any world: what a constructor, the law's wrappers and the law itself go by -/
def eX2 (U : State) : Prop := (Cond.arrayOver (.array .int)).before #[] U = true ∧ va_Nc eS eI U ∧ va_Nc eA eI U
theorem eX2.warm {s U : State} (hW : s.WarmedH U.vm) (h : eX2 s) : eX2 U := ⟨Jvm.Stand.arrayOver_alikeB hW.alike h.1, h.2.1.moved hW.alike, h.2.2.moved hW.alike⟩
abbrev GX : Type := Program → Env → State → MethodId → Array Value → List Frame → Method → Code → (State → Prop) → (Nat → Prop) → Prop
def wI : va_W → va_W := fun w => w
def IsG (l : Launch) (D : va_G) (tys : List (ClassId × FieldType)) (cc : ByteArray) (nL : Nat) (Ts : List Cond) (own : String) (R : Room) (X : GX) (J : JT va_W) : Prop :=
  ∃ (p : Program) (e : Env) (s : State) (m : MethodId) (args : Array Value) (below : List Frame) (meth : Method) (c : Code) (Q : State → Prop) (A : Nat → Prop),
    CallFix p m c cc nL s args Ts own ∧ exZ A s s.heap ∧ eX2 s ∧ va_K D vwCl tys s ∧ (∀ q, s.heap.size ≤ q → A q) ∧ X p e s m args below meth c Q A ∧ J = Jd p l e R s m args below meth c Q D [] wI A nL
/-! worlds put together -/
theorem va_P_mem {D : va_G} {cl : List vw_C} {ws : va_W} {H : Heap} : va_P D cl ws H ↔ ∀ q ∈ ws, va_at D cl q H := by
  constructor
  · intro h q hq
    obtain ⟨k, hk⟩ := List.mem_iff_getElem?.mp hq
    exact h k q hk
  · intro h k q hk
    exact h q (List.mem_of_getElem? hk)
theorem va_P_app {D : va_G} {cl : List vw_C} {a b : va_W} {H : Heap} : va_P D cl (a ++ b) H ↔ va_P D cl a H ∧ va_P D cl b H := by
  rw [va_P_mem, va_P_mem, va_P_mem]
  exact List.forall_mem_append
theorem va_D_app {A : Nat → Prop} {a b : va_W} : va_D A (a ++ b) ↔ va_D A a ∧ va_D A b ∧ ∀ p ∈ a, ∀ q ∈ b, p.1 ≠ q.1 := by
  constructor
  · intro h
    have hl : ∀ {i : Nat} {p : Nat × va_E}, a[i]? = some p → (a ++ b)[i]? = some p := fun {i p} hi => by rw [List.getElem?_append_left (List.getElem?_eq_some_iff.mp hi).1]; exact hi
    have hr : ∀ {i : Nat} {p : Nat × va_E}, b[i]? = some p → (a ++ b)[a.length + i]? = some p := fun {i p} hi => by rw [List.getElem?_append_right (by omega), Nat.add_sub_cancel_left]; exact hi
    refine ⟨⟨fun i j p q h1 h2 e => h.1 i j p q (hl h1) (hl h2) e, fun k q hk => h.2 k q (hl hk)⟩, ⟨fun i j p q h1 h2 e => ?_, fun k q hk => h.2 _ q (hr hk)⟩, fun p hp q hq e => ?_⟩
    · have := h.1 _ _ p q (hr h1) (hr h2) e
      omega
    · obtain ⟨i, hi⟩ := List.mem_iff_getElem?.mp hp
      obtain ⟨j, hj⟩ := List.mem_iff_getElem?.mp hq
      have h1 := (List.getElem?_eq_some_iff.mp hi).1
      have := h.1 _ _ p q (hl hi) (hr hj) e
      omega
  · rintro ⟨h1, h2, h3⟩
    exact va_D.app h1 h2 (fun i j p q hp hq => h3 p (List.mem_of_getElem? hp) q (List.mem_of_getElem? hq))
theorem fr_call {D : va_G} {cl : List vw_C} {A : Nat → Prop} {r1 w r2 w' : va_W} {H H1 : Heap} (hP : va_P D cl (r1 ++ (w ++ r2)) H) (hD : va_D A (r1 ++ (w ++ r2))) (hFc : ∀ q, va_A w H.size q → A q) (hP' : va_P D cl w' H1) (hD' : va_D (va_A w H.size) w') (hk : ∀ q : Nat, q < H.size → ¬ va_A w H.size q → H1[q]? = H[q]?) : va_P D cl (r1 ++ (w' ++ r2)) H1 ∧ va_D A (r1 ++ (w' ++ r2)) := by
  obtain ⟨d1, d2, d3⟩ := va_D_app.mp hD
  obtain ⟨d4, d5, d6⟩ := va_D_app.mp d2
  obtain ⟨p1, p2⟩ := va_P_app.mp hP
  obtain ⟨p3, p4⟩ := va_P_app.mp p2
  have lt : ∀ {ws : va_W}, va_P D cl ws H → ∀ q ∈ ws, q.1 < H.size := fun {ws} h q hq => by
    obtain ⟨k, hk⟩ := List.mem_iff_getElem?.mp hq
    exact (h k q hk).lt
  have no1 : ∀ q ∈ r1, ¬ va_A w H.size q.1 := fun q hq h => by
    rcases h with ⟨k, e, h⟩ | h
    · exact d3 q hq _ (List.mem_append_left _ (List.mem_of_getElem? h)) rfl
    · have := lt p1 q hq; omega
  have no2 : ∀ q ∈ r2, ¬ va_A w H.size q.1 := fun q hq h => by
    rcases h with ⟨k, e, h⟩ | h
    · exact d6 _ (List.mem_of_getElem? h) q hq rfl
    · have := lt p4 q hq; omega
  have inA : ∀ q ∈ w', va_A w H.size q.1 := fun q hq => by
    obtain ⟨k, hk⟩ := List.mem_iff_getElem?.mp hq
    exact hD'.2 k q hk
  refine ⟨va_P_app.mpr ⟨p1.kept (fun k q h => hk _ (lt p1 q (List.mem_of_getElem? h)) (no1 q (List.mem_of_getElem? h))), va_P_app.mpr ⟨hP', p4.kept (fun k q h => hk _ (lt p4 q (List.mem_of_getElem? h)) (no2 q (List.mem_of_getElem? h)))⟩⟩, ?_⟩
  refine va_D_app.mpr ⟨d1, va_D_app.mpr ⟨hD'.weaken (fun _ _ _ h => hFc _ h), d5, fun p hp q hq e => no2 q hq (e ▸ inA p hp)⟩, fun p hp q hq e => ?_⟩
  rcases List.mem_append.mp hq with h | h
  · exact no1 p hp (e ▸ inA q h)
  · exact d3 p hp q (List.mem_append_right _ h) e
section RG
variable {l : Launch} {D : va_G} {tys : List (ClassId × FieldType)} {cc : ByteArray} {nL : Nat} {Ts : List Cond} {own : String} {R : Room} {X : GX} {J : JT va_W}
variable {x : va_W} {k pc : Nat} {lv : List (Nat × Value)} {rest : List Value}
theorem g_re (hJ : IsG l D tys cc nL Ts own R X J) {lv' : List (Nat × Value)} {st : List Value} (kk : J x k pc lv' st) (h : lvs lv lv') : J x k pc lv st := by
  obtain ⟨p, e, s, m, args, below, meth, c, Q, A, CF, hE, hE2, hK, hA, hX, rfl⟩ := hJ
  intro H locs ls hw hl
  exact kk H locs ls hw (lv_re hl (lvs_all h))
theorem g_wide (hJ : IsG l D tys cc nL Ts own R X J) {k' : Nat} {st : List Value} (h : k ≤ k') (kk : J x k' pc lv st) : J x k pc lv st := by
  obtain ⟨p, e, s, m, args, below, meth, c, Q, A, CF, hE, hE2, hK, hA, hX, rfl⟩ := hJ
  intro H locs ls hw hl
  exact W.widen (k := k') (n := 6 * k') h (by omega) (kk H locs ls hw hl)
theorem g_iconst (hJ : IsG l D tys cc nL Ts own R X J) {n : Int} (hdg : decode cc pc = .ok (.iconst n, 1)) (kk : J x k (pc + 1) lv (.int (iZ n) :: rest)) : J x k pc lv rest := by
  obtain ⟨p, e, s, m, args, below, meth, c, Q, A, ⟨hx, hb, hml, hown, hts⟩, hE, hE2, hK, hA, hX, rfl⟩ := hJ
  intro H locs ls hw hl
  exact lv_iconst hx hb hdg rfl (kk H locs ls hw hl)
theorem g_bipush (hJ : IsG l D tys cc nL Ts own R X J) {n : Int} (hn : (Int8.ofInt n).toInt32 = iZ n) (hdg : decode cc pc = .ok (.bipush n, 2)) (kk : J x k (pc + 2) lv (.int (iZ n) :: rest)) : J x k pc lv rest := by
  obtain ⟨p, e, s, m, args, below, meth, c, Q, A, ⟨hx, hb, hml, hown, hts⟩, hE, hE2, hK, hA, hX, rfl⟩ := hJ
  intro H locs ls hw hl
  exact lv_bipush hx hb hdg hn (kk H locs ls hw hl)
theorem g_sipush (hJ : IsG l D tys cc nL Ts own R X J) {n : Int} (hn : (Int16.ofInt n).toInt32 = iZ n) (hdg : decode cc pc = .ok (.sipush n, 3)) (kk : J x k (pc + 3) lv (.int (iZ n) :: rest)) : J x k pc lv rest := by
  obtain ⟨p, e, s, m, args, below, meth, c, Q, A, ⟨hx, hb, hml, hown, hts⟩, hE, hE2, hK, hA, hX, rfl⟩ := hJ
  intro H locs ls hw hl
  exact lv_sipush hx hb hdg hn (kk H locs ls hw hl)
theorem g_lconst (hJ : IsG l D tys cc nL Ts own R X J) {n : Fin 2} {z : Int} (hz : Int64.ofNat (n : Nat) = lZ z) (hdg : decode cc pc = .ok (.lconst n, 1)) (kk : J x k (pc + 1) lv (.long (lZ z) :: rest)) : J x k pc lv rest := by
  obtain ⟨p, e, s, m, args, below, meth, c, Q, A, ⟨hx, hb, hml, hown, hts⟩, hE, hE2, hK, hA, hX, rfl⟩ := hJ
  intro H locs ls hw hl
  exact lv_lconst hx hb hdg hz (kk H locs ls hw hl)
theorem g_ldc (hJ : IsG l D tys cc nL Ts own R X J) {i : Nat} {v : Int32} {z : Int} (hz : v = iZ z) (hin : Jvm.Cond.constant own i v ∈ Ts) (hdg : decode cc pc = .ok (.ldc i, 2)) (kk : J x k (pc + 2) lv (.int (iZ z) :: rest)) : J x k pc lv rest := by
  obtain ⟨p, e, s, m, args, below, meth, c, Q, A, ⟨hx, hb, hml, hown, hts⟩, hE, hE2, hK, hA, hX, rfl⟩ := hJ
  intro H locs ls hw hl
  subst hz
  exact lv_ldc hx hb hown (hts _ hin) hdg (kk H locs ls hw hl)
theorem g_ldc2 (hJ : IsG l D tys cc nL Ts own R X J) {i : Nat} {v : Int64} {z : Int} (hz : v = lZ z) (hin : Jvm.Cond.constantLong own i v ∈ Ts) (hdg : decode cc pc = .ok (.ldc2_w i, 3)) (kk : J x k (pc + 3) lv (.long (lZ z) :: rest)) : J x k pc lv rest := by
  obtain ⟨p, e, s, m, args, below, meth, c, Q, A, ⟨hx, hb, hml, hown, hts⟩, hE, hE2, hK, hA, hX, rfl⟩ := hJ
  intro H locs ls hw hl
  subst hz
  exact lv_ldc2 hx hb hown (hts _ hin) hdg (kk H locs ls hw hl)
theorem g_iload_n (hJ : IsG l D tys cc nL Ts own R X J) {i : Fin 4} {v : Int32} (hdg : decode cc pc = .ok (.iload_n i, 1)) (hv : lvg lv (i : Nat) = some (.int v)) (kk : J x k (pc + 1) lv (.int v :: rest)) : J x k pc lv rest := by
  obtain ⟨p, e, s, m, args, below, meth, c, Q, A, ⟨hx, hb, hml, hown, hts⟩, hE, hE2, hK, hA, hX, rfl⟩ := hJ
  intro H locs ls hw hl
  exact lv_iload_n hx hb hdg rfl (lvg_at hl hv) (kk H locs ls hw hl)
theorem g_iload (hJ : IsG l D tys cc nL Ts own R X J) {i : Nat} {v : Int32} (hdg : decode cc pc = .ok (.iload i, 2)) (hv : lvg lv i = some (.int v)) (kk : J x k (pc + 2) lv (.int v :: rest)) : J x k pc lv rest := by
  obtain ⟨p, e, s, m, args, below, meth, c, Q, A, ⟨hx, hb, hml, hown, hts⟩, hE, hE2, hK, hA, hX, rfl⟩ := hJ
  intro H locs ls hw hl
  exact lv_iload hx hb hdg (lvg_at hl hv) (kk H locs ls hw hl)
theorem g_istore_n (hJ : IsG l D tys cc nL Ts own R X J) {i : Fin 4} {v : Int32} (hn : (i : Nat) < nL) (hdg : decode cc pc = .ok (.istore_n i, 1)) (kk : J x k (pc + 1) (st1 lv (i : Nat) (.int v)) rest) : J x k pc lv (.int v :: rest) := by
  obtain ⟨p, e, s, m, args, below, meth, c, Q, A, ⟨hx, hb, hml, hown, hts⟩, hE, hE2, hK, hA, hX, rfl⟩ := hJ
  intro H locs ls hw hl
  exact lv_istore_n hx hb hdg rfl hl hn rfl (fun ls' hl' => kk H locs ls' hw hl')
theorem g_istore (hJ : IsG l D tys cc nL Ts own R X J) {i : Nat} {v : Int32} (hn : i < nL) (hdg : decode cc pc = .ok (.istore i, 2)) (kk : J x k (pc + 2) (st1 lv i (.int v)) rest) : J x k pc lv (.int v :: rest) := by
  obtain ⟨p, e, s, m, args, below, meth, c, Q, A, ⟨hx, hb, hml, hown, hts⟩, hE, hE2, hK, hA, hX, rfl⟩ := hJ
  intro H locs ls hw hl
  exact lv_istore hx hb hdg hl hn rfl (fun ls' hl' => kk H locs ls' hw hl')
theorem g_lload_n (hJ : IsG l D tys cc nL Ts own R X J) {i : Fin 4} {v : Int64} (hdg : decode cc pc = .ok (.lload_n i, 1)) (hv : lvg lv (i : Nat) = some (.long v)) (kk : J x k (pc + 1) lv (.long v :: rest)) : J x k pc lv rest := by
  obtain ⟨p, e, s, m, args, below, meth, c, Q, A, ⟨hx, hb, hml, hown, hts⟩, hE, hE2, hK, hA, hX, rfl⟩ := hJ
  intro H locs ls hw hl
  exact lv_lload_n hx hb hdg rfl (lvg_at hl hv) (kk H locs ls hw hl)
theorem g_lload (hJ : IsG l D tys cc nL Ts own R X J) {i : Nat} {v : Int64} (hdg : decode cc pc = .ok (.lload i, 2)) (hv : lvg lv i = some (.long v)) (kk : J x k (pc + 2) lv (.long v :: rest)) : J x k pc lv rest := by
  obtain ⟨p, e, s, m, args, below, meth, c, Q, A, ⟨hx, hb, hml, hown, hts⟩, hE, hE2, hK, hA, hX, rfl⟩ := hJ
  intro H locs ls hw hl
  exact lv_lload hx hb hdg (lvg_at hl hv) (kk H locs ls hw hl)
theorem g_aload_n (hJ : IsG l D tys cc nL Ts own R X J) {i : Fin 4} {v : Nat} (hdg : decode cc pc = .ok (.aload_n i, 1)) (hv : lvg lv (i : Nat) = some (.ref v)) (kk : J x k (pc + 1) lv (.ref v :: rest)) : J x k pc lv rest := by
  obtain ⟨p, e, s, m, args, below, meth, c, Q, A, ⟨hx, hb, hml, hown, hts⟩, hE, hE2, hK, hA, hX, rfl⟩ := hJ
  intro H locs ls hw hl
  exact lv_aload_n hx hb hdg rfl (lvg_at hl hv) (kk H locs ls hw hl)
theorem g_aload (hJ : IsG l D tys cc nL Ts own R X J) {i : Nat} {v : Nat} (hdg : decode cc pc = .ok (.aload i, 2)) (hv : lvg lv i = some (.ref v)) (kk : J x k (pc + 2) lv (.ref v :: rest)) : J x k pc lv rest := by
  obtain ⟨p, e, s, m, args, below, meth, c, Q, A, ⟨hx, hb, hml, hown, hts⟩, hE, hE2, hK, hA, hX, rfl⟩ := hJ
  intro H locs ls hw hl
  exact lv_aload hx hb hdg (lvg_at hl hv) (kk H locs ls hw hl)
theorem g_astore_n (hJ : IsG l D tys cc nL Ts own R X J) {i : Fin 4} {v : Nat} (hn : (i : Nat) < nL) (hdg : decode cc pc = .ok (.astore_n i, 1)) (kk : J x k (pc + 1) (st1 lv (i : Nat) (.ref v)) rest) : J x k pc lv (.ref v :: rest) := by
  obtain ⟨p, e, s, m, args, below, meth, c, Q, A, ⟨hx, hb, hml, hown, hts⟩, hE, hE2, hK, hA, hX, rfl⟩ := hJ
  intro H locs ls hw hl
  exact lv_astore_n hx hb hdg rfl hl hn rfl (fun ls' hl' => kk H locs ls' hw hl')
theorem g_astore (hJ : IsG l D tys cc nL Ts own R X J) {i : Nat} {v : Nat} (hn : i < nL) (hdg : decode cc pc = .ok (.astore i, 2)) (kk : J x k (pc + 2) (st1 lv i (.ref v)) rest) : J x k pc lv (.ref v :: rest) := by
  obtain ⟨p, e, s, m, args, below, meth, c, Q, A, ⟨hx, hb, hml, hown, hts⟩, hE, hE2, hK, hA, hX, rfl⟩ := hJ
  intro H locs ls hw hl
  exact lv_astore hx hb hdg hl hn rfl (fun ls' hl' => kk H locs ls' hw hl')
theorem g_iinc (hJ : IsG l D tys cc nL Ts own R X J) {i : Nat} {n a : Int} (hn : i < nL) (hdg : decode cc pc = .ok (.iinc i n, 3)) (hv : lvg lv i = some (.int (iZ a))) (kk : J x k (pc + 3) (st1 lv i (.int (iZ (a + n)))) rest) : J x k pc lv rest := by
  obtain ⟨p, e, s, m, args, below, meth, c, Q, A, ⟨hx, hb, hml, hown, hts⟩, hE, hE2, hK, hA, hX, rfl⟩ := hJ
  intro H locs ls hw hl
  obtain ⟨j, hj⟩ := lvg_mem hv
  exact lv_iinc (v := iZ (a + n)) hx hb hdg hl hj (iZ_add a n) hn rfl (fun ls' hl' => kk H locs ls' hw hl')
theorem g_iadd (hJ : IsG l D tys cc nL Ts own R X J) {a b : Int} (hdg : decode cc pc = .ok (.iadd, 1)) (kk : J x k (pc + 1) lv (.int (iZ (a + b)) :: rest)) : J x k pc lv (.int (iZ b) :: .int (iZ a) :: rest) := by
  obtain ⟨p, e, s, m, args, below, meth, c, Q, A, ⟨hx, hb, hml, hown, hts⟩, hE, hE2, hK, hA, hX, rfl⟩ := hJ
  intro H locs ls hw hl
  refine lv_iadd hx hb hdg ?_
  rw [iZ_add]
  exact kk H locs ls hw hl
theorem g_isub (hJ : IsG l D tys cc nL Ts own R X J) {a b : Int} (hdg : decode cc pc = .ok (.isub, 1)) (kk : J x k (pc + 1) lv (.int (iZ (a - b)) :: rest)) : J x k pc lv (.int (iZ b) :: .int (iZ a) :: rest) := by
  obtain ⟨p, e, s, m, args, below, meth, c, Q, A, ⟨hx, hb, hml, hown, hts⟩, hE, hE2, hK, hA, hX, rfl⟩ := hJ
  intro H locs ls hw hl
  refine lv_isub hx hb hdg ?_
  rw [iZ_sub]
  exact kk H locs ls hw hl
theorem g_iand (hJ : IsG l D tys cc nL Ts own R X J) {a b z : Int} (hz : iZ a &&& iZ b = iZ z) (hdg : decode cc pc = .ok (.iand, 1)) (kk : J x k (pc + 1) lv (.int (iZ z) :: rest)) : J x k pc lv (.int (iZ b) :: .int (iZ a) :: rest) := by
  obtain ⟨p, e, s, m, args, below, meth, c, Q, A, ⟨hx, hb, hml, hown, hts⟩, hE, hE2, hK, hA, hX, rfl⟩ := hJ
  intro H locs ls hw hl
  refine lv_iand hx hb hdg ?_
  rw [hz]
  exact kk H locs ls hw hl
theorem g_land (hJ : IsG l D tys cc nL Ts own R X J) {a b z : Int} (hz : lZ a &&& lZ b = lZ z) (hdg : decode cc pc = .ok (.land, 1)) (kk : J x k (pc + 1) lv (.long (lZ z) :: rest)) : J x k pc lv (.long (lZ b) :: .long (lZ a) :: rest) := by
  obtain ⟨p, e, s, m, args, below, meth, c, Q, A, ⟨hx, hb, hml, hown, hts⟩, hE, hE2, hK, hA, hX, rfl⟩ := hJ
  intro H locs ls hw hl
  refine lv_land hx hb hdg ?_
  rw [hz]
  exact kk H locs ls hw hl
theorem g_lor (hJ : IsG l D tys cc nL Ts own R X J) {a b z : Int} (hz : lZ a ||| lZ b = lZ z) (hdg : decode cc pc = .ok (.lor, 1)) (kk : J x k (pc + 1) lv (.long (lZ z) :: rest)) : J x k pc lv (.long (lZ b) :: .long (lZ a) :: rest) := by
  obtain ⟨p, e, s, m, args, below, meth, c, Q, A, ⟨hx, hb, hml, hown, hts⟩, hE, hE2, hK, hA, hX, rfl⟩ := hJ
  intro H locs ls hw hl
  refine lv_lor hx hb hdg ?_
  rw [hz]
  exact kk H locs ls hw hl
theorem g_lshl (hJ : IsG l D tys cc nL Ts own R X J) {a : Int} {n : Nat} (hn : n < 64) (hdg : decode cc pc = .ok (.lshl, 1)) (kk : J x k (pc + 1) lv (.long (lZ (a * ((2 ^ n : Nat) : Int))) :: rest)) : J x k pc lv (.int (iZ n) :: .long (lZ a) :: rest) := by
  obtain ⟨p, e, s, m, args, below, meth, c, Q, A, ⟨hx, hb, hml, hown, hts⟩, hE, hE2, hK, hA, hX, rfl⟩ := hJ
  intro H locs ls hw hl
  exact lv_lshl hx hb hdg (lZ_shl a hn) (kk H locs ls hw hl)
theorem g_i2l (hJ : IsG l D tys cc nL Ts own R X J) {a : Int} (ha : i32 a) (hdg : decode cc pc = .ok (.i2l, 1)) (kk : J x k (pc + 1) lv (.long (lZ a) :: rest)) : J x k pc lv (.int (iZ a) :: rest) := by
  obtain ⟨p, e, s, m, args, below, meth, c, Q, A, ⟨hx, hb, hml, hown, hts⟩, hE, hE2, hK, hA, hX, rfl⟩ := hJ
  intro H locs ls hw hl
  exact lv_i2l hx hb hdg (i2lZ ha) (kk H locs ls hw hl)
theorem g_low (hJ : IsG l D tys cc nL Ts own R X J) {i : Nat} {a : Int} (hin : Jvm.Cond.constantLong own i 4294967295 ∈ Ts) (d1 : decode cc pc = .ok (.i2l, 1)) (d2 : decode cc (pc + 1) = .ok (.ldc2_w i, 3)) (d3 : decode cc (pc + 4) = .ok (.land, 1)) (kk : J x k (pc + 5) lv (.long (lZ (a % 4294967296)) :: rest)) : J x k pc lv (.int (iZ a) :: rest) := by
  obtain ⟨p, e, s, m, args, below, meth, c, Q, A, ⟨hx, hb, hml, hown, hts⟩, hE, hE2, hK, hA, hX, rfl⟩ := hJ
  intro H locs ls hw hl
  refine lv_i2l hx hb d1 rfl ?_
  refine lv_ldc2 hx hb hown (hts _ hin) d2 ?_
  refine lv_land hx hb d3 ?_
  rw [show (4294967295 : Int64) = lZ 4294967295 by decide, low_Z]
  exact kk H locs ls hw hl
theorem g_dup (hJ : IsG l D tys cc nL Ts own R X J) {v : Value} (hc : v.category = 1) (hdg : decode cc pc = .ok (.dup, 1)) (kk : J x k (pc + 1) lv (v :: v :: rest)) : J x k pc lv (v :: rest) := by
  obtain ⟨p, e, s, m, args, below, meth, c, Q, A, ⟨hx, hb, hml, hown, hts⟩, hE, hE2, hK, hA, hX, rfl⟩ := hJ
  intro H locs ls hw hl
  exact lv_dup hx hb hdg hc (kk H locs ls hw hl)
theorem g_goto (hJ : IsG l D tys cc nL Ts own R X J) {off : Int} {tgt : Nat} (ht : (pc : Int) + off = (tgt : Int)) (hdg : decode cc pc = .ok (.goto off, 3)) (kk : J x k tgt lv rest) : J x k pc lv rest := by
  obtain ⟨p, e, s, m, args, below, meth, c, Q, A, ⟨hx, hb, hml, hown, hts⟩, hE, hE2, hK, hA, hX, rfl⟩ := hJ
  intro H locs ls hw hl
  exact lv_goto hx hb hdg ht (kk H locs ls hw hl)
theorem g_icmp_eq (hJ : IsG l D tys cc nL Ts own R X J) {a b off : Int} {tgt : Nat} (ht : (pc : Int) + off = (tgt : Int)) (ha : i32 a) (hb0 : i32 b) (hdg : decode cc pc = .ok (.if_icmp .eq off, 3)) (kt : a = b → J x k tgt lv rest) (kf : ¬ a = b → J x k (pc + 3) lv rest) : J x k pc lv (.int (iZ b) :: .int (iZ a) :: rest) := by
  obtain ⟨p, e, s, m, args, below, meth, c, Q, A, ⟨hx, hb, hml, hown, hts⟩, hE, hE2, hK, hA, hX, rfl⟩ := hJ
  intro H locs ls hw hl
  exact lv_icmp_eq hx hb hdg ht (fun q => kt ((iZ_eq ha hb0).mp q) H locs ls hw hl) (fun q => kf (fun z => q ((iZ_eq ha hb0).mpr z)) H locs ls hw hl)
theorem g_if_eq (hJ : IsG l D tys cc nL Ts own R X J) {a off : Int} {tgt : Nat} (ht : (pc : Int) + off = (tgt : Int)) (ha : i32 a) (hdg : decode cc pc = .ok (.ifCond .eq off, 3)) (kt : a = 0 → J x k tgt lv rest) (kf : ¬ a = 0 → J x k (pc + 3) lv rest) : J x k pc lv (.int (iZ a) :: rest) := by
  obtain ⟨p, e, s, m, args, below, meth, c, Q, A, ⟨hx, hb, hml, hown, hts⟩, hE, hE2, hK, hA, hX, rfl⟩ := hJ
  intro H locs ls hw hl
  have hb0 : i32 0 := ⟨by decide, by decide⟩
  exact lv_if_eq hx hb hdg ht (fun q => kt (by rw [iZ_0] at q; exact (iZ_eq ha hb0).mp q) H locs ls hw hl) (fun q => kf (by rw [iZ_0] at q; exact fun z => q ((iZ_eq ha hb0).mpr z)) H locs ls hw hl)
theorem g_lcmp_eq (hJ : IsG l D tys cc nL Ts own R X J) {a b off : Int} {tgt : Nat} (ht : ((pc + 1 : Nat) : Int) + off = (tgt : Int)) (ha : i64 a) (hb0 : i64 b) (d1 : decode cc pc = .ok (.lcmp, 1)) (hdg : decode cc (pc + 1) = .ok (.ifCond .eq off, 3)) (kt : a = b → J x k tgt lv rest) (kf : ¬ a = b → J x k (pc + 4) lv rest) : J x k pc lv (.long (lZ b) :: .long (lZ a) :: rest) := by
  obtain ⟨p, e, s, m, args, below, meth, c, Q, A, ⟨hx, hb, hml, hown, hts⟩, hE, hE2, hK, hA, hX, rfl⟩ := hJ
  intro H locs ls hw hl
  refine W.lcmp hx hb d1 ?_
  rw [lg_Z ha hb0]
  have hs := cz_spec a b
  generalize cz a b = z at hs ⊢
  have hc : i32 z := ⟨by omega, by omega⟩
  have hz : i32 0 := ⟨by decide, by decide⟩
  refine lv_if_eq hx hb hdg ht (fun q => kt ?_ H locs ls hw hl) (fun q => kf ?_ H locs ls hw hl)
  · rw [iZ_0] at q
    have q2 := (iZ_eq hc hz).mp q
    omega
  · rw [iZ_0] at q
    have q2 := (show ¬ z = 0 from fun z => q ((iZ_eq hc hz).mpr z))
    omega
theorem g_icmp_ne (hJ : IsG l D tys cc nL Ts own R X J) {a b off : Int} {tgt : Nat} (ht : (pc : Int) + off = (tgt : Int)) (ha : i32 a) (hb0 : i32 b) (hdg : decode cc pc = .ok (.if_icmp .ne off, 3)) (kt : ¬ a = b → J x k tgt lv rest) (kf : a = b → J x k (pc + 3) lv rest) : J x k pc lv (.int (iZ b) :: .int (iZ a) :: rest) := by
  obtain ⟨p, e, s, m, args, below, meth, c, Q, A, ⟨hx, hb, hml, hown, hts⟩, hE, hE2, hK, hA, hX, rfl⟩ := hJ
  intro H locs ls hw hl
  exact lv_icmp_ne hx hb hdg ht (fun q => kt (fun z => q ((iZ_eq ha hb0).mpr z)) H locs ls hw hl) (fun q => kf ((iZ_eq ha hb0).mp q) H locs ls hw hl)
theorem g_if_ne (hJ : IsG l D tys cc nL Ts own R X J) {a off : Int} {tgt : Nat} (ht : (pc : Int) + off = (tgt : Int)) (ha : i32 a) (hdg : decode cc pc = .ok (.ifCond .ne off, 3)) (kt : ¬ a = 0 → J x k tgt lv rest) (kf : a = 0 → J x k (pc + 3) lv rest) : J x k pc lv (.int (iZ a) :: rest) := by
  obtain ⟨p, e, s, m, args, below, meth, c, Q, A, ⟨hx, hb, hml, hown, hts⟩, hE, hE2, hK, hA, hX, rfl⟩ := hJ
  intro H locs ls hw hl
  have hb0 : i32 0 := ⟨by decide, by decide⟩
  exact lv_if_ne hx hb hdg ht (fun q => kt (by rw [iZ_0] at q; exact fun z => q ((iZ_eq ha hb0).mpr z)) H locs ls hw hl) (fun q => kf (by rw [iZ_0] at q; exact (iZ_eq ha hb0).mp q) H locs ls hw hl)
theorem g_icmp_gt (hJ : IsG l D tys cc nL Ts own R X J) {a b off : Int} {tgt : Nat} (ht : (pc : Int) + off = (tgt : Int)) (ha : i32 a) (hb0 : i32 b) (hdg : decode cc pc = .ok (.if_icmp .gt off, 3)) (kt : b < a → J x k tgt lv rest) (kf : a ≤ b → J x k (pc + 3) lv rest) : J x k pc lv (.int (iZ b) :: .int (iZ a) :: rest) := by
  obtain ⟨p, e, s, m, args, below, meth, c, Q, A, ⟨hx, hb, hml, hown, hts⟩, hE, hE2, hK, hA, hX, rfl⟩ := hJ
  intro H locs ls hw hl
  exact lv_icmp_gt hx hb hdg ht (fun q => kt ((iZ_lt hb0 ha).mp q) H locs ls hw hl) (fun q => kf (Int.not_lt.mp (fun z => q ((iZ_lt hb0 ha).mpr z))) H locs ls hw hl)
end RG
