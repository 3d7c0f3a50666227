def wO (cL : ClassId) (o : Nat) (f : Nat → Int64) : va_W := [(o, .inl (cL, 1, .inr (.inl f)))]
abbrev tL (cI cO cL : ClassId) : List (ClassId × FieldType) := [(cI, .int), (cO, .array .int), (cL, .long)]
def XW (D : va_G) (hh : List (Nat × Nat × Nat × Nat)) (km : Nat) (post : Option Value → va_W → Prop) : GX := fun p e s m args below meth c Q A =>
  meth.sig.returnType = some .int ∧ meth.locks = false ∧ c.exceptionTable.toList = tableOf hh ∧ Q = vx_MQ below (Q9 post (gB D [] wI A) A) (X9 (fun _ _ => False) (gB D [] wI A) A) args s km (6 * km) A
def CatchAt (hh : List (Nat × Nat × Nat × Nat)) (Ts : List Cond) (pc : Nat) (E : String) (hp : Nat) : Prop :=
  ∃ (pre : List ExceptionTableEntry) (x : ExceptionTableEntry) (suf : List ExceptionTableEntry), tableOf hh = pre ++ x :: suf ∧ (∀ z ∈ pre, z.catchType ≠ 0 ∧ Cond.classLink RL z.catchType eI ∈ Ts ∧ (E = eS ∨ E = eA)) ∧ covers x pc = true ∧ x.catchType ≠ 0 ∧ Cond.classLink RL x.catchType E ∈ Ts ∧ Cond.castable E E ∈ exW ∧ x.handlerPc = hp
theorem catch1 {b e h c : Nat} {hh : List (Nat × Nat × Nat × Nat)} {Ts : List Cond} {pc : Nat} {E : String} (h1 : covers ({ startPc := b, endPc := e, handlerPc := h, catchType := c } : ExceptionTableEntry) pc = true) (h2 : c ≠ 0) (h3 : Cond.classLink RL c E ∈ Ts) (h4 : Cond.castable E E ∈ exW) : CatchAt ((b, e, h, c) :: hh) Ts pc E h :=
  ⟨[], _, tableOf hh, rfl, (fun _ h => nomatch h), h1, h2, h3, h4, rfl⟩
theorem catch2 {b e h c b2 e2 h2 c2 : Nat} {hh : List (Nat × Nat × Nat × Nat)} {Ts : List Cond} {pc : Nat} {E : String} (k2 : c ≠ 0) (k3 : Cond.classLink RL c eI ∈ Ts) (hE : E = eS ∨ E = eA) (h1 : covers ({ startPc := b2, endPc := e2, handlerPc := h2, catchType := c2 } : ExceptionTableEntry) pc = true) (h2' : c2 ≠ 0) (h3 : Cond.classLink RL c2 E ∈ Ts) (h4 : Cond.castable E E ∈ exW) : CatchAt ((b, e, h, c) :: (b2, e2, h2, c2) :: hh) Ts pc E h2 :=
  ⟨[_], _, tableOf hh, rfl, fun z hz => by rw [List.mem_singleton.mp hz]; exact ⟨k2, k3, hE⟩, h1, h2', h3, h4, rfl⟩
theorem CtG.ofH {l : Launch} {D : va_G} {tys : List (ClassId × FieldType)} {y : MethodName} {ws ws' : List Cond} {F k LL : Nat} {As : List Value} {w : va_W} {post : Option Value → va_W → Prop} {cc : ByteArray} {maxL : Nat} {hh : List (Nat × Nat × Nat × Nat)}
    (ho : y.cls = RL) (hy : plainName y.cls = true) (hw : ws = Cond.codeWith y cc maxL (some .int) hh :: ws') (hn : (lg_sl As).length ≤ maxL)
    (body : ∀ J : JT va_W, IsG l D tys cc maxL ws RL (rmK F k LL) (XW D hh k post) J → J w 0 0 (lv_args 0 As) []) : CtG l D tys y ws F k LL As w post := by
  intro sz
  refine vx_ofWH (cc := cc) (maxL := maxL) (ret := some .int) (hh := hh) hy hw ?_
  intro p e s m args below meth c s₁ B hml hv
  obtain ⟨rfl, ⟨hsz, hP, hK, hD0, hE⟩, hE2⟩ := hv
  have hts := atoms_spec (ws := ws) B.pre
  have hown : s.vm.findClass RL = some m.cls := by rw [← ho]; exact findClass_of_methodNamed B.named
  have htb := vx_table (x := y) B (hts (Cond.codeWith y cc maxL (some .int) hh) (by rw [hw]; exact List.mem_cons_self))
  subst hsz
  have hD := hD0.self (sz := s.heap.size)
  have hA : ∀ q : Nat, s.heap.size ≤ q → va_A w s.heap.size q := fun q h => Or.inr h
  have hl := lv_entry As hn
  rw [lg_entry_eq]
  have hJ := body _ ⟨p, e, s, m, As.toArray, below, meth, c, _, va_A w s.heap.size, ⟨B.exec, B.bytes, hml, hown, hts⟩, hE, hE2, hK, hA, ⟨B.returns, B.notSynchronized, htb, rfl⟩, rfl⟩
  exact hJ s.heap [] _ ⟨hP, hD, va_S.rf⟩ hl
section RWr
variable {l : Launch} {D : va_G} {tys : List (ClassId × FieldType)} {cc : ByteArray} {nL : Nat} {Ts : List Cond} {F km LL : Nat} {hh : List (Nat × Nat × Nat × Nat)} {post : Option Value → va_W → Prop} {J : JT va_W}
variable {k pc : Nat} {lv : List (Nat × Value)} {rest : List Value} {cI cO cL : ClassId} {a : Nat → Nat} {Z : ZZ} {o : Nat} {f : Nat → Int64}
theorem w_iret (hJ : IsG l D tys cc nL Ts RL (rmK F km LL) (XW D hh km post) J) {x : va_W} {v : Int32} (hk : k ≤ km) (hp : post (some (.int v)) x) (hdg : decode cc pc = .ok (.ireturn, 1)) : J x k pc lv [.int v] := by
  obtain ⟨p, e, s, m, args, below, meth, c, Q, A, ⟨hx, hb, hml, hown, hts⟩, hE, hE2, hK, hA, ⟨h1, h2, h3, rfl⟩, rfl⟩ := hJ
  intro H locs ls hw hl
  refine W.widen (k := km) (n := 6 * km) hk (by omega) ?_
  refine vx_ret ?_
  exact W.iret hx hb h1 (fun t ht hW => ⟨⟨some (.int v), x, rfl, hp, by rw [ht]; exact hw.1, hw.2.1⟩, hw.2.2.F ht⟩) hw.2.2.2.2 hdg h2
theorem w_callV (hJ : IsG l D tys cc nL Ts RL (rmK F km LL) (XW D hh km post) J) {σ : Type} {wf : σ → va_W} {tys' : List (ClassId × FieldType)} {y : MethodName} {ws ws' : List Cond} {bytes : ByteArray} {maxL index n F1 kc L1 : Nat} {ret : Option FieldType} {b : Nat} {As st : List Value} {x : σ} {po : Option Value → σ → Prop} {pxo : String → σ → Prop} {C : String} {r2 : va_W}
    (hM : Ct l D tys' wf y ws F1 kc L1 (.ref b :: As) x po pxo) (hst : st = As.reverse ++ .ref b :: rest) (hG : GoodIn Ts (wsV RL index C y ws)) (hw : ws = Cond.code y bytes maxL ret :: ws')
    (hd : y.cls = C ∧ y.cls ≠ "java/lang/invoke/MethodHandle" ∧ y.cls ≠ "java/lang/invoke/VarHandle" ∧ (parseMethodDescriptor y.desc).map (fun d => d.parameters.length) = some n) (hn : As.length = n)
    (hR : F1 + 1 ≤ F ∧ 8 + (maxL + 11) + L1 ≤ LL) (hrs : (rest.map fun v => v.category).sum ≤ 8) (hk : k + kc ≤ km)
    {ci : Nat} {fs : List Value} {T : u_T} {N : Nat} (hb0 : (wf x)[0]? = some (b, .inr (ci, fs))) (hci : vwCl[ci]? = some (C, T, N)) (is : List Nat) (hty : is.filterMap (fun i => tys[i]?) = tys')
    (hdg : decode cc pc = .ok (.invokevirtual index, 3)) (kx : ∀ E x', pxo E x' → ∃ hp, CatchAt hh Ts pc E hp ∧ ∀ q : Nat, J (wf x' ++ r2) (k + kc) hp lv [.ref q])
    (kk : ∀ r x', po r x' → J (wf x' ++ r2) (k + kc) (pc + 3) lv (r.toList ++ rest)) : J (wf x ++ r2) k pc lv st := by
  subst hst
  obtain ⟨p, e, s, m, args, below, meth, c, Q, A, CF, hE, hE2, hK, hA, hX, rfl⟩ := hJ
  intro H locs ls hww hl
  obtain ⟨hP, hD, hFc⟩ := g_seg (r1 := []) hA hww
  have hE1 : exZ A s H := hE.kept hww.2.2.2.1
  refine run_ok (w := wf x) (r1 := []) (vx_runV (As := As) (rest := rest) (g := F0 m pc ls (As.reverse ++ .ref b :: rest)) CF (hM H.size) (cwV n CF.2.2.2.2 hG hw rfl rfl hd hR)
    ⟨fun a U g mk q => by obtain ⟨q0, q1, qP, qK, qD, qE⟩ := q; exact ⟨q0, q1, qP, va_K.moved (u := U) (U := U.calling g mk a) (Vm.Alike.refl U.vm) qK, qD, exZ.warm (s := U) (U := U.calling g mk a) (State.WarmedH.refl U) qE⟩, va_recv hK hP hci hb0,
      fun U hU hW => ⟨rfl, by rw [hU], by rw [hU]; exact hP, va_K.moved hW.alike (hK.sub is hty), hD, by rw [hU]; exact (hE1.narrow hFc).warm hW⟩⟩ rfl hn hl.1 rfl (lv_room hrs) hdg ⟨hk, by show 6 * k + 6 * kc ≤ 6 * km; omega⟩) hA hww hl kk (fun E x' h H1 locs1 q ce hw1 hce hcv hcl => ?_)
  obtain ⟨hx, hb, hml, hown, hts⟩ := CF
  obtain ⟨hp, ⟨pre, y9, suf, e1, e2, e3, e4, e5, e6, rfl⟩, hj⟩ := kx E x' h
  refine vx_catch (own := RL) (name := E) (E := E) (ce := ce) hown pre y9 suf (hX.2.2.1.trans e1) (fun z hz => ?_) e3 e4 (hts _ e5) (va_tabs (exW_ok _ e6).2 rfl (hE.2.2.1 _ e6)) hce hcv hcl (hj q H1 locs1 ls hw1 hl)
  obtain ⟨z1, z2, z3⟩ := e2 z hz
  refine Or.inr ⟨z1, eI, hts _ z2, ?_⟩
  rcases z3 with z3 | z3
  · rw [z3]; exact hE2.2.1
  · rw [z3]; exact hE2.2.2
theorem g_lastore {own : String} {R : Room} {X : GX} (hJ : IsG l D (tL cI cO cL) cc nL Ts own R X J) {v : Int64} (hdg : decode cc pc = .ok (.lastore, 1)) (kk : J (wX cI cO a Z ++ wO cL o (vp_updL f 0 v)) k (pc + 1) lv rest) : J (wX cI cO a Z ++ wO cL o f) k pc lv (.long v :: .int (iZ 0) :: .ref o :: rest) := by
  obtain ⟨p, e, s, m, args, below, meth, c, Q, A, ⟨hx, hb, hml, hown, hts⟩, hE, hE2, hK, hA, hX, rfl⟩ := hJ
  intro H locs ls hw hl
  refine va_last hx hb hK hw.1 hw.2.1 hw.2.2 19 2 (cA := cL) (n := 1) (f := f) rfl rfl (iZ_in ⟨by decide, by decide⟩ (by decide)) hdg (fun H1 locs1 hP hD hS => ?_)
  exact kk H1 locs1 ls ⟨hP, hD, hS⟩ hl
end RWr
