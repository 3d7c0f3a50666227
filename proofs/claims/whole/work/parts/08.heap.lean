section RC
variable {σ : Type} {l : Launch} {D : va_G} {tys : List (ClassId × FieldType)} {wf : σ → va_W} {cc : ByteArray} {nL : Nat} {Ts : List Cond} {own : String} {F km LL : Nat} {rt : Option FieldType} {post : Option Value → σ → Prop} {px : String → σ → Prop} {J : JT σ}
variable {x : σ} {k pc : Nat} {lv : List (Nat × Value)} {rest : List Value}
theorem j_vret (hJ : IsJ l D tys wf cc nL Ts own F km LL none post px J) (hk : k ≤ km) (hp : post none x) (hdg : decode cc pc = .ok (.return_, 1)) : J x k pc lv [] := by
  obtain ⟨p, e, s, m, args, below, meth, c, A, ⟨hx, hb, hml, hown, hts⟩, hE, hM, hK, hA, rfl⟩ := hJ
  intro H locs ls hw hl
  refine W.widen (k := km) (n := 6 * km) hk (by omega) ?_
  refine vx_ret ?_
  exact W.vret hx hb hM.1 (fun t ht hW => ⟨⟨none, x, rfl, hp, by rw [ht]; exact hw.1, hw.2.1⟩, hw.2.2.F ht⟩) hw.2.2.2.2 hdg hM.2.1
theorem j_iret (hJ : IsJ l D tys wf cc nL Ts own F km LL (some .int) post px J) {v : Int32} (hk : k ≤ km) (hp : post (some (.int v)) x) (hdg : decode cc pc = .ok (.ireturn, 1)) : J x k pc lv [.int v] := by
  obtain ⟨p, e, s, m, args, below, meth, c, A, ⟨hx, hb, hml, hown, hts⟩, hE, hM, hK, hA, rfl⟩ := hJ
  intro H locs ls hw hl
  refine W.widen (k := km) (n := 6 * km) hk (by omega) ?_
  refine vx_ret ?_
  exact W.iret hx hb hM.1 (fun t ht hW => ⟨⟨some (.int v), x, rfl, hp, by rw [ht]; exact hw.1, hw.2.1⟩, hw.2.2.F ht⟩) hw.2.2.2.2 hdg hM.2.1
theorem j_zret (hJ : IsJ l D tys wf cc nL Ts own F km LL (some .boolean) post px J) {v : Int32} (hn : narrow .boolean (.int v) = .int v) (hk : k ≤ km) (hp : post (some (.int v)) x) (hdg : decode cc pc = .ok (.ireturn, 1)) : J x k pc lv [.int v] := by
  obtain ⟨p, e, s, m, args, below, meth, c, A, ⟨hx, hb, hml, hown, hts⟩, hE, hM, hK, hA, rfl⟩ := hJ
  intro H locs ls hw hl
  refine W.widen (k := km) (n := 6 * km) hk (by omega) ?_
  refine vx_ret ?_
  exact W.zret hx hb hM.1 hn (fun t ht hW => ⟨⟨some (.int v), x, rfl, hp, by rw [ht]; exact hw.1, hw.2.1⟩, hw.2.2.F ht⟩) hw.2.2.2.2 hdg hM.2.1
theorem j_lret (hJ : IsJ l D tys wf cc nL Ts own F km LL (some .long) post px J) {v : Int64} (hk : k ≤ km) (hp : post (some (.long v)) x) (hdg : decode cc pc = .ok (.lreturn, 1)) : J x k pc lv [.long v] := by
  obtain ⟨p, e, s, m, args, below, meth, c, A, ⟨hx, hb, hml, hown, hts⟩, hE, hM, hK, hA, rfl⟩ := hJ
  intro H locs ls hw hl
  refine W.widen (k := km) (n := 6 * km) hk (by omega) ?_
  refine vx_ret ?_
  exact W.lret hx hb hM.1 (fun t ht hW => ⟨⟨some (.long v), x, rfl, hp, by rw [ht]; exact hw.1, hw.2.1⟩, hw.2.2.F ht⟩) hw.2.2.2.2 hdg (hlocks := hM.2.1)
/-- a call of an instance method of the same object, over the same world -/
theorem j_callV (hJ : IsJ l D tys wf cc nL Ts own F km LL rt post px J) {y : MethodName} {ws ws' : List Cond} {bytes : ByteArray} {maxL index n F1 kc L1 : Nat} {ret : Option FieldType} {b : Nat} {As st : List Value} {po : Option Value → σ → Prop} {pxo : String → σ → Prop}
    (hM : Ct l D tys wf y ws F1 kc L1 (.ref b :: As) x po pxo) (hst : st = As.reverse ++ .ref b :: rest) (hG : GoodIn Ts (wsV own index own y ws)) (hw : ws = Cond.code y bytes maxL ret :: ws')
    (hd : y.cls = own ∧ y.cls ≠ "java/lang/invoke/MethodHandle" ∧ y.cls ≠ "java/lang/invoke/VarHandle" ∧ (parseMethodDescriptor y.desc).map (fun d => d.parameters.length) = some n) (hn : As.length = n)
    (hR : F1 + 1 ≤ F ∧ 8 + (maxL + 11) + L1 ≤ LL) (hrs : (rest.map fun v => v.category).sum ≤ 8) (hk : k + kc ≤ km)
    {ci : Nat} {fs : List Value} {T : u_T} {N : Nat} (hb0 : (wf x)[0]? = some (b, .inr (ci, fs))) (hci : vwCl[ci]? = some (own, T, N))
    (hdg : decode cc pc = .ok (.invokevirtual index, 3)) (kx : ∀ E x', pxo E x' → px E x')
    (kk : ∀ r x', po r x' → J x' (k + kc) (pc + 3) lv (r.toList ++ rest)) : J x k pc lv st := by
  subst hst
  obtain ⟨p, e, s, m, args, below, meth, c, A, ⟨hx, hb, hml, hown, hts⟩, hE, hMt, hK, hA, rfl⟩ := hJ
  intro H locs ls hww hl
  obtain ⟨hP, hD, hS⟩ := hww
  have hFc : ∀ q, va_A (wf x) H.size q → A q := fun q h => h.elim (fun ⟨k9, e9, h9⟩ => hD.2 k9 _ h9) (fun h9 => hA q (Nat.le_trans hS.1 h9))
  have hE1 : exZ A s H := hE.kept hS.2.1
  have hrun : vx_Run p l e (rmK F km LL) s m args below meth c H locs k (6 * k) kc (6 * kc) (F0 m pc ls (As.reverse ++ .ref b :: rest)) rest _ _ _ := vx_runV (As := As) (rest := rest) (g := F0 m pc ls (As.reverse ++ .ref b :: rest)) ⟨hx, hb, hml, hown, hts⟩ (hM H.size) (cwV n hts hG hw rfl rfl hd hR)
    ⟨fun a U g mk q => by obtain ⟨q0, q1, qP, qK, qD, qE⟩ := q; exact ⟨q0, q1, qP, va_K.moved (u := U) (U := U.calling g mk a) (Vm.Alike.refl U.vm) qK, qD, exZ.warm (s := U) (U := U.calling g mk a) (State.WarmedH.refl U) qE⟩, va_recv hK hP hci hb0,
      fun U hU hW => ⟨rfl, by rw [hU], by rw [hU]; exact hP, va_K.moved hW.alike hK, hD.weaken (fun _ _ _ _ => trivial), by rw [hU]; exact (hE1.narrow hFc).warm hW⟩⟩ rfl hn hl.1 rfl (lv_room hrs) hdg ⟨hk, by show 6 * k + 6 * kc ≤ 6 * km; omega⟩
  intro T9 hT X
  rcases hrun T9 hT X with ⟨v, st₀, t, T', L, h0, X', hL, e1, e2, ⟨⟨r, u, hv, hp, hbb⟩, hF⟩, st⟩ | ⟨q, st₀, t, T', L, E, ce, h0, X', hL, e1, e2, ⟨u, hp, hbb, hF⟩, hce, hcv, hcl, st⟩
  · cases hv
    obtain ⟨k1, k2, k3⟩ := vx_keep h0 e1 hS (fun q _ h => hFc q h) hFc hL hF
    rw [← Nat.mul_add] at X'
    obtain ⟨t2, a1, b1⟩ := kk v u hp T'.heap (locs ++ L) ls ⟨by rw [e1]; exact hbb.1, hbb.2.weaken (fun _ _ _ h => hFc _ h), k3⟩ hl T' rfl X'
    exact ⟨t2, st t2 a1, b1⟩
  · obtain ⟨k1, k2, k3⟩ := vx_keep h0 e1 hS (fun q _ h => hFc q h) hFc hL hF
    rw [← Nat.mul_add] at X'
    obtain ⟨t2, a1, b1⟩ := vx_out (Qc := Q9 post (gB D tys wf A) A) (XC := X9 px (gB D tys wf A) A) (free := A) (mc := km) (ms := 6 * km) (pc := pc) (ls := ls) (rest := rest) (E := E) (ce := ce) (q := q) (H := T'.heap) (fun z hz => (hMt.2.2 z hz).elim) hMt.2.1 (by rw [e1]; exact hce) hcv hcl
      (fun t9 ht9 _ => ⟨u, kx E u hp, ⟨by rw [ht9, e1]; exact hbb.1, hbb.2.weaken (fun _ _ _ h => hFc _ h)⟩, k3.F ht9⟩) k3.2.2 hk (by omega) T' rfl X'
    exact ⟨t2, st.trans a1, b1⟩
/-- the empty world -/
def wE : Unit → va_W := fun _ => []
/-- a call of a static method that knows no cell -/
theorem j_callS (hJ : IsJ l D tys wf cc nL Ts own F km LL rt post px J) {y : MethodName} {ws ws' : List Cond} {bytes : ByteArray} {maxL index n F1 kc L1 : Nat} {ret : Option FieldType} {As st : List Value} {po : Option Value → Unit → Prop} {pxo : String → Unit → Prop}
    (hM : Ct l D [] wE y ws F1 kc L1 As () po pxo) (hst : st = As.reverse ++ rest) (hG : GoodIn Ts (va_wsS own index y ws)) (hw : ws = Cond.code y bytes maxL ret :: ws')
    (hd : y.cls ≠ "java/lang/invoke/MethodHandle" ∧ y.cls ≠ "java/lang/invoke/VarHandle" ∧ (parseMethodDescriptor y.desc).map (fun d => d.parameters.length) = some n) (hn : As.length = n)
    (hR : F1 + 1 ≤ F ∧ 8 + (maxL + 11) + L1 ≤ LL) (hrs : (rest.map fun v => v.category).sum ≤ 8) (hk : k + kc ≤ km)
    (hdg : decode cc pc = .ok (.invokestatic index, 3)) (kx : ∀ E, pxo E () → px E x)
    (kk : ∀ r, po r () → J x (k + kc) (pc + 3) lv (r.toList ++ rest)) : J x k pc lv st := by
  subst hst
  obtain ⟨p, e, s, m, args, below, meth, c, A, ⟨hx, hb, hml, hown, hts⟩, hE, hMt, hK, hA, rfl⟩ := hJ
  intro H locs ls hww hl
  obtain ⟨hP, hD, hS⟩ := hww
  have hFc : ∀ q, va_A (wE ()) H.size q → A q := fun q h => h.elim (fun ⟨k9, e9, h9⟩ => by cases h9) (fun h9 => hA q (Nat.le_trans hS.1 h9))
  have hE1 : exZ A s H := hE.kept hS.2.1
  have hP0 : ∀ H9, va_P D vwCl (wE ()) H9 := fun H9 k9 q9 h9 => by cases h9
  have hD0 : ∀ A9, va_D A9 (wE ()) := fun A9 => ⟨fun i j p q h => (by cases h), fun k9 q9 h9 => (by cases h9)⟩
  have hrun : vx_Run p l e (rmK F km LL) s m args below meth c H locs k (6 * k) kc (6 * kc) (F0 m pc ls (As.reverse ++ rest)) rest _ _ _ := vx_runS (As := As) (rest := rest) (g := F0 m pc ls (As.reverse ++ rest)) ⟨hx, hb, hml, hown, hts⟩ (hM H.size) (va_cwS n hts hG hw rfl rfl hd hR)
    ⟨fun a U g mk q => by obtain ⟨q0, q1, qP, qK, qD, qE⟩ := q; exact ⟨q0, q1, qP, va_K.moved (u := U) (U := U.calling g mk a) (Vm.Alike.refl U.vm) qK, qD, exZ.warm (s := U) (U := U.calling g mk a) (State.WarmedH.refl U) qE⟩,
      fun U hU hW => ⟨rfl, by rw [hU], hP0 _, va_K.moved hW.alike (hK.sub [] rfl), hD0 _, by rw [hU]; exact (hE1.narrow hFc).warm hW⟩⟩ rfl hn hl.1 rfl (lv_room hrs) hdg ⟨hk, by show 6 * k + 6 * kc ≤ 6 * km; omega⟩
  have hkeep : ∀ (H1 : Heap), (∀ q : Nat, q < H.size → ¬ va_A (wE ()) H.size q → H1[q]? = H[q]?) → va_P D vwCl (wf x) H1 := fun H1 h1 => hP.kept (fun k9 q9 h9 => h1 q9.1 ((hP k9 q9 h9).lt) (fun z => z.elim (fun ⟨_, _, h8⟩ => by cases h8) (fun z9 => by have := (hP k9 q9 h9).lt; omega)))
  intro T9 hT X
  rcases hrun T9 hT X with ⟨v, st₀, t, T', L, h0, X', hL, e1, e2, ⟨⟨r, u, hv, hp, hbb⟩, hF⟩, st⟩ | ⟨q, st₀, t, T', L, E, ce, h0, X', hL, e1, e2, ⟨u, hp, hbb, hF⟩, hce, hcv, hcl, st⟩
  · cases hv
    obtain ⟨k1, k2, k3⟩ := vx_keep h0 e1 hS (fun q _ h => hFc q h) hFc hL hF
    rw [← Nat.mul_add] at X'
    obtain ⟨t2, a1, b1⟩ := kk v hp T'.heap (locs ++ L) ls ⟨hkeep _ k2, hD, k3⟩ hl T' rfl X'
    exact ⟨t2, st t2 a1, b1⟩
  · obtain ⟨k1, k2, k3⟩ := vx_keep h0 e1 hS (fun q _ h => hFc q h) hFc hL hF
    rw [← Nat.mul_add] at X'
    obtain ⟨t2, a1, b1⟩ := vx_out (Qc := Q9 post (gB D tys wf A) A) (XC := X9 px (gB D tys wf A) A) (free := A) (mc := km) (ms := 6 * km) (pc := pc) (ls := ls) (rest := rest) (E := E) (ce := ce) (q := q) (H := T'.heap) (fun z hz => (hMt.2.2 z hz).elim) hMt.2.1 (by rw [e1]; exact hce) hcv hcl
      (fun t9 ht9 _ => ⟨x, kx E hp, ⟨by rw [ht9]; exact hkeep _ k2, hD⟩, k3.F ht9⟩) k3.2.2 hk (by omega) T' rfl X'
    exact ⟨t2, st.trans a1, b1⟩
/-- 'throw new E("text")' -/
theorem j_throwS (hJ : IsJ l D tys wf cc nL Ts RX0 F km LL rt post px J) (hl0 : l.stackTraces = false) {cls text : String} {names : List String} {ik is ic : Nat} (hcls : Bundle.fit cls = true) (hnames : ∀ n ∈ names, Bundle.fit n = true)
    (hk : Cond.classLink RX0 ik cls ∈ Ts) (hini : Cond.initialized cls ∈ Ts) (hT : (is, text) ∈ exT) (hat : ∀ w ∈ (vx_atS RX0 ic cls names).filter goodWord, w ∈ Ts) (hbad : ∀ w ∈ (vx_atS RX0 ic cls names).filter (fun w => !goodWord w), w ∈ exW)
    (hgood : ∀ w ∈ Cond.classLink RX0 ik cls :: Cond.initialized cls :: vx_atS RX0 ic cls names, vx_ot w = true)
    (d0 : decode cc pc = .ok (.new ik, 3)) (d3 : decode cc (pc + 3) = .ok (.dup, 1)) (d4 : decode cc (pc + 4) = .ok (.ldc is, 2)) (d6 : decode cc (pc + 6) = .ok (.invokespecial ic, 3)) (d9 : decode cc (pc + 9) = .ok (.athrow, 1))
    (hF : names.length + 3 < F) (hLL : (rest.map fun v => v.category).sum + (13 * (names.length + 1) + 43) ≤ LL) (hkm : k + 1 ≤ km) (hp : px cls x) : J x k pc lv rest := by
  obtain ⟨p, e, s, m, args, below, meth, c, A, ⟨hx, hb, hml, hown, hts⟩, hE, hMt, hK, hA, rfl⟩ := hJ
  intro H locs ls hw hl
  obtain ⟨sa, hsa⟩ := hE.2.2.2 _ hT
  exact vx_throwS (A := A) (ik := ik) (is := is) (ic := ic) hx hb hl0 hown hcls hnames (hts _ hk) (hts _ hini) hsa (vx_hat (fun w h => hts w (hat w h)) hbad (fun w hw => va_tabs (exW_ok w hw).2 rfl (hE.2.2.1 w hw))) hgood hE.1 hE.2.1 hw.2.2 (hl.1.trans hml.symm) d0 d3 d4 d6 d9 (fun z hz => (hMt.2.2 z hz).elim) hF hLL hkm (by show 6 * k + 6 ≤ 6 * km; omega) hMt.2.1
    (fun t _ h1 h2 => ⟨x, hp, ⟨hw.1.kept (fun k9 q9 h9 => h2 q9.1 ((hw.1 k9 q9 h9).lt)), hw.2.1⟩, Nat.le_trans hw.2.2.1 h1, fun q h3 h4 => (h2 q (Nat.lt_of_lt_of_le h3 hw.2.2.1)).trans (hw.2.2.2.1 q h3 h4)⟩) hw.2.2.2.2 hkm (by omega)
end RC
