def XC (D : va_G) (km : Nat) (post : Option Value → va_W → Prop) : GX := fun p e s m args below meth c Q A =>
  meth.sig.returnType = none ∧ meth.locks = false ∧ meth.name = "<init>" ∧ Q = MQ below (Q9 post (gB D [] wI A) A) args s km (6 * km) A
theorem CtI.of {l : Launch} {D : va_G} {tys : List (ClassId × FieldType)} {y : MethodName} {ws ws' : List Cond} {F k LL : Nat} {As : List Value} {w : va_W} {post : Option Value → va_W → Prop} {cc : ByteArray} {maxL : Nat} {own : String}
    (ho : y.cls = own) (hi : y.name = "<init>") (hy : plainName y.cls = true) (hw : ws = Cond.code y cc maxL none :: ws') (hn : (lg_sl As).length ≤ maxL)
    (body : ∀ J : JT va_W, IsG l D tys cc maxL ws own (rmK F k LL) (XC D k post) J → J w 0 0 (lv_args 0 As) []) : CtI l D tys y ws F k LL As w post := by
  subst ho
  intro sz
  refine Met.ofW (cc := cc) (maxL := maxL) (ret := none) hy hw ?_
  intro p e s m args below meth c s₁ B hml hv
  obtain ⟨rfl, ⟨hsz, hP, hK, hD0, hE⟩, hE2⟩ := hv
  have hts := atoms_spec (ws := ws) B.pre
  have hown : s.vm.findClass y.cls = some m.cls := findClass_of_methodNamed B.named
  have hin : meth.name = "<init>" := ((name_of_methodNamed B.named B.method).1).trans hi
  subst hsz
  have hD := hD0.self (sz := s.heap.size)
  have hA : ∀ q : Nat, s.heap.size ≤ q → va_A w s.heap.size q := fun q h => Or.inr h
  have hl := lv_entry As hn
  rw [lg_entry_eq]
  have hJ := body _ ⟨p, e, s, m, As.toArray, below, meth, c, _, va_A w s.heap.size, ⟨B.exec, B.bytes, hml, hown, hts⟩, hE, hE2, hK, hA, ⟨B.returns, B.notSynchronized, hin, rfl⟩, rfl⟩
  exact hJ s.heap [] _ ⟨hP, hD, va_S.rf⟩ hl
theorem arrV_cg (c : ClassId) {N : Nat} {f g : Nat → Value} (h : ∀ j, j < N → f j = g j) : arrV c N f = arrV c N g := by
  unfold arrV
  have : (fun j : Fin N => f j.val) = fun j : Fin N => g j.val := funext fun j => h j.val j.isLt
  rw [this]
theorem va_D_cg {A : Nat → Prop} {ws ws' : va_W} (h : ws'.map (·.1) = ws.map (·.1)) (hD : va_D A ws) : va_D A ws' := by
  have key : ∀ (i : Nat) (q : Nat × va_E), ws'[i]? = some q → ∃ q', ws[i]? = some q' ∧ q'.1 = q.1 := fun i q hi => by
    have h1 : (ws'.map (·.1))[i]? = some q.1 := by rw [List.getElem?_map, hi]; rfl
    rw [h, List.getElem?_map] at h1
    cases hw : ws[i]? with
    | none => rw [hw] at h1; cases h1
    | some q' => rw [hw] at h1; exact ⟨q', rfl, Option.some.inj h1⟩
  refine ⟨fun i j p q h1 h2 e => ?_, fun k q hk => ?_⟩
  · obtain ⟨p', a1, a2⟩ := key i p h1
    obtain ⟨q', b1, b2⟩ := key j q h2
    exact hD.1 i j p' q' a1 b1 (by rw [a2, b2]; exact e)
  · obtain ⟨q', b1, b2⟩ := key k q hk
    rw [← b2]; exact hD.2 k q' b1
section RCt
variable {l : Launch} {D : va_G} {tys : List (ClassId × FieldType)} {cc : ByteArray} {nL : Nat} {Ts : List Cond} {own : String} {F km LL : Nat} {post : Option Value → va_W → Prop} {J : JT va_W} {R : Room} {X : GX}
variable {k pc : Nat} {lv : List (Nat × Value)} {rest : List Value} {x ww rows : va_W} {b ci : Nat} {fs : List Value}
theorem c_obj (hJ : IsG l D tys cc nL Ts own R X J) {a idx : Nat} (w1 : Cond.methodLink own idx Lib.objectInit ∈ Ts) (w2 : Cond.instanceMethod Lib.objectInit ∈ Ts) (w3 : Cond.code Lib.objectInit ⟨#[0xb1]⟩ 1 none ∈ Ts) (hF : 1 ≤ R.frames) (hL : 2 * 0 + (rest.map fun v => v.category).sum + 12 ≤ R.locals) (hdg : decode cc pc = .ok (.invokespecial idx, 3)) (kk : J x k (pc + 3) lv rest) : J x k pc lv (.ref a :: rest) := by
  obtain ⟨p, e, s, m, args, below, meth, c, Q, A, ⟨hx, hb, hml, hown, hts⟩, hE, hE2, hK, hA, hX, rfl⟩ := hJ
  intro H locs ls hw hl
  refine W.objInit hx hb hown (hts _ w1) (hts _ w2) (hts _ w3) rfl (by rw [hml]; exact hl.1) rfl hdg hF hL ?_
  exact W.eq (g2 := F0 m (pc + 3) ls rest) rfl (kk H locs ls hw hl)
theorem c_vret (hJ : IsG l D tys cc nL Ts own (rmK F km LL) (XC D km post) J) (hk : k ≤ km) (hp : post none x) (hdg : decode cc pc = .ok (.return_, 1)) : J x k pc lv [] := by
  obtain ⟨p, e, s, m, args, below, meth, c, Q, A, ⟨hx, hb, hml, hown, hts⟩, hE, hE2, hK, hA, ⟨h1, h2, h3, rfl⟩, rfl⟩ := hJ
  intro H locs ls hw hl
  refine W.widen (k := km) (n := 6 * km) hk (by omega) ?_
  exact W.vret hx hb h1 (fun t ht hW => ⟨⟨none, x, rfl, hp, by rw [ht]; exact hw.1, hw.2.1⟩, hw.2.2.F ht⟩) hw.2.2.2.2 hdg h2
theorem c_putF (hJ : IsG l D tys cc nL Ts own R (XC D km post) J) {C : String} {T : u_T} {N index kf : Nat} {ty : FieldType} {v : Value} (hin : ∀ w ∈ u_ws C T N, w ∈ Ts) (ty0 : Nat → FieldType) (hty : ∀ k, k < N → parseFieldDescriptor (T k).2.2.1 = some (ty0 k)) (hnm : ∀ a, a < N → ∀ b, b < N → a ≠ b → (T a).2.1 ≠ (T b).2.1)
    (hc : vwCl[ci]? = some (C, T, N)) (hk : kf < N) (hf : Cond.fieldLink own index C (T kf).2.1 (T kf).2.2.1 ∈ Ts) (hC : (T kf).1 = C) (hfin : (T kf).2.2.2 = true) (hdecl : (T kf).1 = own) (hd : parseFieldDescriptor (T kf).2.2.1 = some ty) (hn : narrow ty v = v) (hfit : fits ty v = true) (hlen : kf < fs.length) (hdg : decode cc pc = .ok (.putfield index, 3))
    (kk : J (((b, .inr (ci, fs.set kf v)) :: ww) ++ rows) k (pc + 3) lv rest) : J (((b, .inr (ci, fs)) :: ww) ++ rows) k pc lv (v :: .ref b :: rest) := by
  obtain ⟨p, e, s, m, args, below, meth, c, Q, A, ⟨hx, hb, hml, hown, hts⟩, hE, hE2, hK, hA, ⟨h1, h2, h3, h4⟩, rfl⟩ := hJ
  intro H locs ls hw hl
  exact va_putF (D := D) (ci := ci) (v := v) (ty := ty) (C := C) (T := T) (N := N) hx hb hts hin ty0 hty hnm hown hK hw.1 hw.2.1 hw.2.2 0 rfl hc kf hk (hts _ hf) (fun _ h9 => by rw [hC] at h9; exact h9) hfin h3 hdecl hd hn hfit hlen hdg (fun H1 locs1 hP hD hS => kk H1 locs1 ls ⟨hP, hD, hS⟩ hl)
theorem c_newi (hJ : IsG l D tys cc nL Ts own R X J) {cI : ClassId} {t0 kc : Nat} {n : Int} {N : Nat} (ht0 : tys[t0]? = some (cI, .int)) (w1 : Cond.arrayClass .int ∈ Ts) (hn : n = N) (hN : N < 100000) (hc : k + kc ≤ R.cells) (hs : 6 * (k + kc) ≤ R.slots) (h1 : 1 ≤ kc) (h6 : N ≤ 6 * kc) (hdg : decode cc pc = .ok (.newarray .int, 2))
    (kk : ∀ q : Nat, J (((b, .inr (ci, fs)) :: (ww ++ [(q, .inl (cI, N, .inl (fun _ => iZ 0)))])) ++ rows) (k + kc) (pc + 2) lv (.ref q :: rest)) : J (((b, .inr (ci, fs)) :: ww) ++ rows) k pc lv (.int (iZ n) :: rest) := by
  subst hn
  obtain ⟨p, e, s, m, args, below, meth, c, Q, A, ⟨hx, hb, hml, hown, hts⟩, hE, hE2, hK, hA, hX, rfl⟩ := hJ
  intro H locs ls hw hl
  refine va_newa (atype := .int) (ty := .int) (N' := N) (a0 := (N, .inl (fun _ => iZ 0))) hx hb (hts _ w1) rfl hK hw.1 hw.2.1 hw.2.2 hA (fun cA => by rw [vp_cell_i, ← iZ_0]; rfl) (fun q => by rw [iZ_0, iZ_lt ⟨by omega, by omega⟩ ⟨by omega, by omega⟩] at q; omega) (by rw [iZ_clamp ⟨by omega, by omega⟩]; omega) (by show N * 4 ≤ _; omega) (by omega) (by omega) hdg (fun q cA H1 hK1 hP hD hS => ?_)
  have e1 : s.vm.findClass ("[" ++ FieldType.int.toString) = some cA := (hK1.2 tys.length (cA, .int) (by rw [List.getElem?_append_right (Nat.le_refl _), Nat.sub_self]; rfl)).2
  have e2 : s.vm.findClass ("[" ++ FieldType.int.toString) = some cI := (hK.2 t0 _ ht0).2
  cases Option.some.inj (e1.symm.trans e2)
  refine W.widen (k := k + kc) (n := 6 * (k + kc)) (by omega) (by omega) ?_
  exact kk q H1 locs ls ⟨va_P.swap (a := (b, .inr (ci, fs)) :: ww) hP, va_D.swap (a := (b, .inr (ci, fs)) :: ww) hD, hS⟩ hl
theorem c_mna (hJ : IsG l D tys cc nL Ts own R X J) {cI cO : ClassId} {t0 t1 kc index : Nat} (ht0 : tys[t0]? = some (cI, .int)) (ht1 : tys[t1]? = some (cO, .array .int)) (w0 : Cond.classLink own index "[[I" ∈ Ts) (w1 : Cond.arrayClass .int ∈ Ts) (hc : k + kc ≤ R.cells) (hs : 6 * (k + kc) ≤ R.slots) (h1 : 13 ≤ kc) (h6 : 6156 ≤ 6 * kc) (hdg : decode cc pc = .ok (.multianewarray index 2, 4))
    (kk : ∀ (q : Nat) (r : Nat → Nat), J (((b, .inr (ci, fs)) :: [(q, .inl (cO, 12, .inr (.inr (.inr (.inr (fun i => some (r i)))))))]) ++ (List.range 12).map (fun i => (r i, .inl (cI, 512, .inl (fun _ => iZ 0))))) (k + kc) (pc + 4) lv (.ref q :: rest)) : J [(b, .inr (ci, fs))] k pc lv (.int (iZ 512) :: .int (iZ 12) :: rest) := by
  obtain ⟨p, e, s, m, args, below, meth, c, Q, A, ⟨hx, hb, hml, hown, hts⟩, hE, hE2, hK, hA, hX, rfl⟩ := hJ
  intro H locs ls hw hl
  have hcI : s.vm.findClass ("[" ++ FieldType.int.toString) = some cI := (hK.2 t0 _ ht0).2
  have hcO : s.vm.findClass ("[" ++ (FieldType.array .int).toString) = some cO := (hK.2 t1 _ ht1).2
  refine va_mna (X := [(b, .inr (ci, fs))]) (L := []) (f := fun _ => .inr (0, [])) (ty := .int) (cy := cI) (N' := 12) (K' := 512) (z := (512, .inl (fun _ => iZ 0))) hx hb hown (hts _ w0) (Jvm.Stand.arrayOver_alikeB (Vm.Alike.refl s.vm) hE2.1) (hts _ w1) hcI hK hw.1 hw.2.1 hw.2.2 hA (by decide) (by decide) (by decide) (by decide) (by decide) (by decide) (by decide) rfl rfl (by omega) (by omega) (fun c9 => by rw [vp_cell_i, ← iZ_0]; exact arrV_new c9 512 (.int 0)) hdg (fun q r cA H1 hr hrl hK1 hP hD hS => ?_)
  have e1 : s.vm.findClass ("[" ++ (FieldType.array .int).toString) = some cA := (hK1.2 tys.length (cA, .array .int) (by rw [List.getElem?_append_right (Nat.le_refl _), Nat.sub_self]; rfl)).2
  cases Option.some.inj (e1.symm.trans hcO)
  have hrows : va_pl ([] ++ (List.range 12).map r) (vr_up (fun _ => .inr (0, [])) ((List.range 12).map r) (.inl (cI, (512, .inl (fun _ => iZ 0))))) = (List.range 12).map (fun i => ((r i, .inl (cI, 512, .inl (fun _ => iZ 0))) : Nat × va_E)) := by
    unfold va_pl
    rw [List.nil_append, List.map_map]
    apply List.map_congr_left
    intro i hi
    show (r i, vr_up _ _ _ (r i)) = _
    rw [vr_up_in (List.mem_map.mpr ⟨i, hi, rfl⟩)]
  rw [hrows] at hP hD
  refine W.widen (k := k + kc) (n := 6 * (k + kc)) (by omega) (by omega) ?_
  refine kk q r H1 locs ls ⟨?_, va_D_cg (by rfl) hD, hS⟩ hl
  obtain ⟨p1, p2⟩ := va_P_app.mp hP
  obtain ⟨p3, p4⟩ := va_P_app.mp p1
  refine va_P_app.mpr ⟨?_, p2⟩
  refine (va_P_app (a := [((b, Sum.inr (ci, fs)) : Nat × va_E)])).mpr ⟨p3, va_P_mem.mpr (fun z hz => ?_)⟩
  rw [List.mem_singleton.mp hz]
  have h9 := va_P_mem.mp p4 _ (List.mem_singleton.mpr rfl)
  show H1[q]? = some (vp_cell _ _)
  have h8 : H1[q]? = some (vp_cell cO (12, .inr (.inr (.inr (.inr (fun i => if i < 12 then some (r i) else none)))))) := h9
  rw [h8, vp_cell_q, vp_cell_q]
  congr 1
end RCt
