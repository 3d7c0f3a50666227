section RK
variable {p : Program} {l : Launch} {e : Env} {R : Room} {s : State} {m : MethodId} {args : Array Value} {below : List Frame} {meth : Method} {c : Code} {Q : State → Prop} {A : Nat → Prop} {D : va_G} {nL : Nat}
/-- behind a call: the callee's cells as its contract says, the rest as it was -/
theorem run_ok {σ : Type} {wf : σ → va_W} {tys : List (ClassId × FieldType)} {po : Option Value → σ → Prop} {pxo : String → σ → Prop} {H : Heap} {locs : List Loc} {k kc pc : Nat} {ls : Array Slot} {lv : List (Nat × Value)} {st rest : List Value} {w r1 r2 : va_W} {a : Array Value}
    (hrun : vx_Run p l e R s m args below meth c H locs k (6 * k) kc (6 * kc) (F0 m pc ls st) rest (Q9 po (gB D tys wf (va_A w H.size)) (va_A w H.size) a) (X9 pxo (gB D tys wf (va_A w H.size)) (va_A w H.size)) (va_A w H.size))
    (hA : ∀ q, s.heap.size ≤ q → A q) (hw : wlH D [] wI A s (r1 ++ (w ++ r2)) H locs) (hl : lv_has ls nL lv)
    (kk : ∀ r x', po r x' → Jd p l e R s m args below meth c Q D [] wI A nL (r1 ++ (wf x' ++ r2)) (k + kc) (pc + 3) lv (r.toList ++ rest))
    (kx : ∀ E x', pxo E x' → ∀ (H1 : Heap) (locs1 : List Loc) (q : Nat) (ce : Cell), wlH D [] wI A s (r1 ++ (wf x' ++ r2)) H1 locs1 → H1[q]? = some ce → ce.vm = .none → s.vm.findClass E = some ce.cls → vx_W p l e R s m args below meth c H1 locs1 (k + kc) (6 * (k + kc)) Q (F0 m pc ls rest) q) :
    W p l e R s m args below meth c H locs k (6 * k) Q (F0 m pc ls st) := by
  obtain ⟨hP, hD, hS⟩ := hw
  have hD2 : va_D A (r1 ++ (w ++ r2)) := hD
  have hFc : ∀ q, va_A w H.size q → A q := fun q h => h.elim (fun ⟨k9, e9, h9⟩ => (va_D_app.mp (va_D_app.mp hD2).2.1).1.2 k9 _ h9) (fun h9 => hA q (Nat.le_trans hS.1 h9))
  intro T9 hT X
  rcases hrun T9 hT X with ⟨v, st₀, t, T', L, h0, X', hL, e1, e2, ⟨⟨r, u, hv, hp, hbb⟩, hF⟩, st⟩ | ⟨q, st₀, t, T', L, E, ce, h0, X', hL, e1, e2, ⟨u, hp, hbb, hF⟩, hce, hcv, hcl, st⟩
  · cases hv
    obtain ⟨k1, k2, k3⟩ := vx_keep h0 e1 hS (fun q _ h => hFc q h) hFc hL hF
    rw [← Nat.mul_add] at X'
    obtain ⟨f1, f2⟩ := fr_call hP hD hFc (w' := wf u) (by rw [e1]; exact hbb.1) hbb.2 k2
    obtain ⟨t2, a1, b1⟩ := kk v u hp T'.heap (locs ++ L) ls ⟨f1, f2, k3⟩ hl T' rfl X'
    exact ⟨t2, st t2 a1, b1⟩
  · obtain ⟨k1, k2, k3⟩ := vx_keep h0 e1 hS (fun q _ h => hFc q h) hFc hL hF
    rw [← Nat.mul_add] at X'
    obtain ⟨f1, f2⟩ := fr_call hP hD hFc (w' := wf u) (by rw [e1]; exact hbb.1) hbb.2 k2
    obtain ⟨t2, a1, b1⟩ := kx E u hp T'.heap (locs ++ L) q ce ⟨f1, f2, k3⟩ (by rw [e1]; exact hce) hcv hcl T' rfl X'
    exact ⟨t2, st.trans a1, b1⟩
end RK
/-- contracts over any world -/
def gPre2 (D : va_G) (tys : List (ClassId × FieldType)) (sz : Nat) (w : va_W) : State → Prop := fun U => gPre D tys wI sz w U ∧ eX2 U
def CtG (l : Launch) (D : va_G) (tys : List (ClassId × FieldType)) (y : MethodName) (ws : List Cond) (F k LL : Nat) (As : List Value) (w : va_W) (post : Option Value → va_W → Prop) : Prop :=
  ∀ sz : Nat, vx_Met l y ws (rmK F k LL) (va_Pc As (gPre2 D tys sz w)) (Q9 post (gB D tys wI (va_A w sz)) (va_A w sz)) (X9 (fun _ _ => False) (gB D tys wI (va_A w sz)) (va_A w sz)) k (6 * k) (va_A w sz)
def CtI (l : Launch) (D : va_G) (tys : List (ClassId × FieldType)) (y : MethodName) (ws : List Cond) (F k LL : Nat) (As : List Value) (w : va_W) (post : Option Value → va_W → Prop) : Prop :=
  ∀ sz : Nat, Met l y ws (rmK F k LL) (va_Pc As (gPre2 D tys sz w)) (Q9 post (gB D tys wI (va_A w sz)) (va_A w sz)) k (6 * k) (va_A w sz)
section RK2
variable {l : Launch} {D : va_G} {tys : List (ClassId × FieldType)} {cc : ByteArray} {nL : Nat} {Ts : List Cond} {own : String} {R : Room} {X : GX} {J : JT va_W}
variable {k pc : Nat} {lv : List (Nat × Value)} {rest : List Value}
theorem gp_blind {D : va_G} {tys : List (ClassId × FieldType)} {sz : Nat} {w : va_W} {As : List Value} : FrameBlind (va_Pc As (gPre2 D tys sz w)) := fun a U g mk q => by
  obtain ⟨q0, ⟨q1, qP, qK, qD, qE⟩, q2⟩ := q
  exact ⟨q0, ⟨q1, qP, va_K.moved (u := U) (U := U.calling g mk a) (Vm.Alike.refl U.vm) qK, qD, exZ.warm (s := U) (U := U.calling g mk a) (State.WarmedH.refl U) qE⟩, eX2.warm (s := U) (U := U.calling g mk a) (State.WarmedH.refl U) q2⟩
theorem g_seg {A : Nat → Prop} {s : State} {r1 w r2 : va_W} {H : Heap} {locs : List Loc} (hA : ∀ q, s.heap.size ≤ q → A q) (hw : wlH D [] wI A s (r1 ++ (w ++ r2)) H locs) : va_P D vwCl w H ∧ va_D (fun _ => True) w ∧ ∀ q, va_A w H.size q → A q := by
  obtain ⟨hP, hD, hS⟩ := hw
  have hD2 : va_D A (r1 ++ (w ++ r2)) := hD
  have hD3 := (va_D_app.mp (va_D_app.mp hD2).2.1).1
  exact ⟨(va_P_app.mp (va_P_app.mp hP).2).1, hD3.weaken (fun _ _ _ _ => trivial), fun q h => h.elim (fun ⟨k9, e9, h9⟩ => hD3.2 k9 _ h9) (fun h9 => hA q (Nat.le_trans hS.1 h9))⟩
/-- a call of an object's method, the object's cells in the middle of the world; it doesn't throw -/
theorem g_callV (hJ : IsG l D tys cc nL Ts own R X J) {σ : Type} {wf : σ → va_W} {tys' : List (ClassId × FieldType)} {y : MethodName} {ws ws' : List Cond} {bytes : ByteArray} {maxL index n F1 kc L1 : Nat} {ret : Option FieldType} {b : Nat} {As st : List Value} {x : σ} {po : Option Value → σ → Prop} {pxo : String → σ → Prop} {C : String} {r1 r2 : va_W}
    (hM : Ct l D tys' wf y ws F1 kc L1 (.ref b :: As) x po pxo) (hst : st = As.reverse ++ .ref b :: rest) (hG : GoodIn Ts (wsV own index C y ws)) (hw : ws = Cond.code y bytes maxL ret :: ws')
    (hd : y.cls = C ∧ y.cls ≠ "java/lang/invoke/MethodHandle" ∧ y.cls ≠ "java/lang/invoke/VarHandle" ∧ (parseMethodDescriptor y.desc).map (fun d => d.parameters.length) = some n) (hn : As.length = n)
    (hR : F1 + 1 ≤ R.frames ∧ 8 + (maxL + 11) + L1 ≤ R.locals) (hrs : (rest.map fun v => v.category).sum ≤ 8) (hk : k + kc ≤ R.cells ∧ 6 * k + 6 * kc ≤ R.slots)
    {ci : Nat} {fs : List Value} {T : u_T} {N : Nat} (hb0 : (wf x)[0]? = some (b, .inr (ci, fs))) (hci : vwCl[ci]? = some (C, T, N)) (is : List Nat) (hty : is.filterMap (fun i => tys[i]?) = tys')
    (hdg : decode cc pc = .ok (.invokevirtual index, 3)) (kx : ∀ E x', pxo E x' → False)
    (kk : ∀ r x', po r x' → J (r1 ++ (wf x' ++ r2)) (k + kc) (pc + 3) lv (r.toList ++ rest)) : J (r1 ++ (wf x ++ r2)) k pc lv st := by
  subst hst
  obtain ⟨p, e, s, m, args, below, meth, c, Q, A, CF, hE, hE2, hK, hA, hX, rfl⟩ := hJ
  intro H locs ls hww hl
  obtain ⟨hP, hD, hFc⟩ := g_seg hA hww
  have hE1 : exZ A s H := hE.kept hww.2.2.2.1
  exact run_ok (w := wf x) (vx_runV (As := As) (rest := rest) (g := F0 m pc ls (As.reverse ++ .ref b :: rest)) CF (hM H.size) (cwV n CF.2.2.2.2 hG hw rfl rfl hd hR)
    ⟨fun a U g mk q => by obtain ⟨q0, q1, qP, qK, qD, qE⟩ := q; exact ⟨q0, q1, qP, va_K.moved (u := U) (U := U.calling g mk a) (Vm.Alike.refl U.vm) qK, qD, exZ.warm (s := U) (U := U.calling g mk a) (State.WarmedH.refl U) qE⟩, va_recv hK hP hci hb0,
      fun U hU hW => ⟨rfl, by rw [hU], by rw [hU]; exact hP, va_K.moved hW.alike (hK.sub is hty), hD, by rw [hU]; exact (hE1.narrow hFc).warm hW⟩⟩ rfl hn hl.1 rfl (lv_room hrs) hdg hk) hA hww hl kk (fun E x' h => (kx E x' h).elim)
/-- a static call of a method with a table of its own -/
theorem g_callSX (hJ : IsG l D tys cc nL Ts own R X J) {tys' : List (ClassId × FieldType)} {y : MethodName} {ws ws' : List Cond} {bytes : ByteArray} {maxL index n F1 kc L1 : Nat} {ret : Option FieldType} {hh : List (Nat × Nat × Nat × Nat)} {As st : List Value} {w : va_W} {po : Option Value → va_W → Prop} {r1 r2 : va_W}
    (hM : CtG l D tys' y ws F1 kc L1 As w po) (hst : st = As.reverse ++ rest) (hG : GoodIn Ts (va_wsS own index y ws)) (hw : ws = Cond.codeWith y bytes maxL ret hh :: ws')
    (hd : y.cls ≠ "java/lang/invoke/MethodHandle" ∧ y.cls ≠ "java/lang/invoke/VarHandle" ∧ (parseMethodDescriptor y.desc).map (fun d => d.parameters.length) = some n) (hn : As.length = n)
    (hR : F1 + 1 ≤ R.frames ∧ 8 + (maxL + 11) + L1 ≤ R.locals) (hrs : (rest.map fun v => v.category).sum ≤ 8) (hk : k + kc ≤ R.cells ∧ 6 * k + 6 * kc ≤ R.slots) (is : List Nat) (hty : is.filterMap (fun i => tys[i]?) = tys')
    (hdg : decode cc pc = .ok (.invokestatic index, 3))
    (kk : ∀ r w', po r w' → J (r1 ++ (w' ++ r2)) (k + kc) (pc + 3) lv (r.toList ++ rest)) : J (r1 ++ (w ++ r2)) k pc lv st := by
  subst hst
  obtain ⟨p, e, s, m, args, below, meth, c, Q, A, CF, hE, hE2, hK, hA, hX, rfl⟩ := hJ
  intro H locs ls hww hl
  obtain ⟨hP, hD, hFc⟩ := g_seg hA hww
  have hE1 : exZ A s H := hE.kept hww.2.2.2.1
  exact run_ok (wf := wI) (w := w) (vx_runSX (As := As) (rest := rest) (g := F0 m pc ls (As.reverse ++ rest)) CF (hM H.size) (vx_cwSW n CF.2.2.2.2 hG hw rfl rfl hd hR)
    ⟨gp_blind, fun U hU hW => ⟨rfl, ⟨by rw [hU], by rw [hU]; exact hP, va_K.moved hW.alike (hK.sub is hty), hD, by rw [hU]; exact (hE1.narrow hFc).warm hW⟩, hE2.warm hW⟩⟩ rfl hn hl.1 rfl (lv_room hrs) hdg hk) hA hww hl kk (fun E x' h => h.elim)
/-- a constructor's call -/
theorem g_callI (hJ : IsG l D tys cc nL Ts own R X J) {tys' : List (ClassId × FieldType)} {y : MethodName} {ws ws' : List Cond} {bytes : ByteArray} {maxL index F1 kc L1 : Nat} {b : Nat} {w : va_W} {po : Option Value → va_W → Prop} {r1 r2 : va_W}
    (hM : CtI l D tys' y ws F1 kc L1 [.ref b] w po) (hG : GoodIn Ts ws) (hw : ws = Cond.code y bytes maxL none :: ws') (w1 : Cond.initialized y.cls ∈ Ts) (w2 : Cond.methodLink own index y ∈ Ts) (w3 : Cond.instanceMethod y ∈ Ts) (hy1 : y.name = "<init>")
    (hd : y.cls ≠ "java/lang/invoke/MethodHandle" ∧ y.cls ≠ "java/lang/invoke/VarHandle" ∧ (parseMethodDescriptor y.desc).map (fun d => d.parameters.length) = some 0)
    (hR : F1 + 1 ≤ R.frames ∧ 8 + (maxL + 11) + L1 ≤ R.locals) (hrs : (rest.map fun v => v.category).sum ≤ 8) (hk : k + kc ≤ R.cells ∧ 6 * k + 6 * kc ≤ R.slots) (is : List Nat) (hty : is.filterMap (fun i => tys[i]?) = tys')
    (hdg : decode cc pc = .ok (.invokespecial index, 3))
    (kk : ∀ r w', po r w' → J (r1 ++ (w' ++ r2)) (k + kc) (pc + 3) lv (r.toList ++ rest)) : J (r1 ++ (w ++ r2)) k pc lv (.ref b :: rest) := by
  obtain ⟨p, e, s, m, args, below, meth, c, Q, A, CF, hE, hE2, hK, hA, hX, rfl⟩ := hJ
  intro H locs ls hww hl
  obtain ⟨hP, hD, hFc⟩ := g_seg hA hww
  have hE1 : exZ A s H := hE.kept hww.2.2.2.1
  have hts := CF.2.2.2.2
  have hr := va_runI (As := []) (rest := rest) (g := F0 m pc ls (.ref b :: rest)) (cells := k) (slots := 6 * k) (locs := locs) (H := H) (below := below) (meth := meth) (R := R) (e := e) CF (hM H.size) (cwI 0 hts hG hw rfl rfl (hts _ w1) (hts _ w2) (hts _ w3) hy1 hd hR)
    ⟨gp_blind, fun U hU hW => ⟨rfl, ⟨by rw [hU], by rw [hU]; exact hP, va_K.moved hW.alike (hK.sub is hty), hD, by rw [hU]; exact (hE1.narrow hFc).warm hW⟩, hE2.warm hW⟩⟩ rfl rfl hl.1 rfl (lv_room hrs) hdg hk
  exact run_ok (wf := wI) (w := w) (pxo := fun _ _ => False) (fun T hT X => Or.inl (hr T hT X)) hA hww hl kk (fun E x' h => h.elim)
end RK2
