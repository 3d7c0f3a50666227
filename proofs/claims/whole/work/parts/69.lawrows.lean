/-! rows of the law itself -/
theorem i32_v (x : Int32) : i32 x.toInt := ⟨by have := Int32.le_toInt x; omega, by have := Int32.toInt_lt x; omega⟩
def XL (b L : Nat) (xs : Nat → Int32) : GX := fun p e s m args below meth c Q A =>
  va_X b L xs s s.heap ∧ b < s.heap.size ∧ ¬ A b ∧ meth.sig.returnType = ret ∧ meth.locks = false ∧ args = #[.ref b] ∧ (∀ q, A q → s.heap.size ≤ q) ∧ Q = lw_Z below args s
section RLaw
variable {l : Launch} {D : va_G} {tys : List (ClassId × FieldType)} {cc : ByteArray} {nL : Nat} {Ts : List Cond} {own : String} {R : Room} {X : GX} {J : JT va_W}
variable {x : va_W} {k pc : Nat} {lv : List (Nat × Value)} {rest : List Value} {b L : Nat} {xs : Nat → Int32}
theorem g_swap (hJ : IsG l D tys cc nL Ts own R X J) {a c d : va_W} (kk : J ((a ++ d) ++ c) k pc lv rest) : J ((a ++ c) ++ d) k pc lv rest := by
  obtain ⟨p, e, s, m, args, below, meth, c0, Q, A, CF, hE, hE2, hK, hA, hX, rfl⟩ := hJ
  intro H locs ls hw hl
  exact kk H locs ls ⟨va_P.swap hw.1, va_D.swap hw.2.1, hw.2.2⟩ hl
theorem g_new (hJ : IsG l D tys cc nL Ts own R X J) {C : String} {T : u_T} {N ci index : Nat} {fs : List Value} (hin : ∀ w ∈ u_ws C T N, w ∈ Ts) (ty : Nat → FieldType) (hty : ∀ k, k < N → parseFieldDescriptor (T k).2.2.1 = some (ty k)) (w1 : Cond.classLink own index C ∈ Ts) (w2 : Cond.instantiable C N ∈ Ts) (w3 : Cond.initialized C ∈ Ts) (hc : vwCl[ci]? = some (C, T, N)) (hfs : ∀ j, j < N → defaultValue (ty j) = vp_V fs j) (hN : N ≤ 6) (hk : k + 1 ≤ R.cells) (hs : 6 * (k + 1) ≤ R.slots) (hdg : decode cc pc = .ok (.new index, 3))
    (kk : ∀ q : Nat, J (x ++ [(q, .inr (ci, fs))]) (k + 1) (pc + 3) lv (.ref q :: rest)) : J x k pc lv rest := by
  obtain ⟨p, e, s, m, args, below, meth, c, Q, A, ⟨hx, hb, hml, hown, hts⟩, hE, hE2, hK, hA, hX, rfl⟩ := hJ
  intro H locs ls hw hl
  refine va_new (D := D) (ci := ci) (fs := fs) hx hb hts hin ty hty hown (hts _ w1) (hts _ w2) (hts _ w3) hK hw.1 hw.2.1 hw.2.2 hA hc hfs hk (by omega) hdg (fun q H1 hP hD hS => ?_)
  refine W.widen (k := k + 1) (n := 6 * (k + 1)) (by omega) (by omega) ?_
  exact kk q H1 locs ls ⟨hP, hD, hS⟩ hl
theorem g_newl (hJ : IsG l D tys cc nL Ts own R X J) {cL : ClassId} {t0 : Nat} (ht0 : tys[t0]? = some (cL, .long)) (w1 : Cond.arrayClass .long ∈ Ts) (hk : k + 1 ≤ R.cells) (hs : 6 * (k + 1) ≤ R.slots) (hdg : decode cc pc = .ok (.newarray .long, 2))
    (kk : ∀ q : Nat, J (x ++ wO cL q (fun _ => 0)) (k + 1) (pc + 2) lv (.ref q :: rest)) : J x k pc lv (.int (iZ 1) :: rest) := by
  obtain ⟨p, e, s, m, args, below, meth, c, Q, A, ⟨hx, hb, hml, hown, hts⟩, hE, hE2, hK, hA, hX, rfl⟩ := hJ
  intro H locs ls hw hl
  refine va_newa (atype := .long) (ty := .long) (N' := 1) (a0 := (1, .inr (.inl (fun _ => 0)))) hx hb (hts _ w1) rfl hK hw.1 hw.2.1 hw.2.2 hA (fun cA => by rw [vp_cell_l]; rfl) (by decide) (by decide) (by decide) (by omega) (by omega) hdg (fun q cA H1 hK1 hP hD hS => ?_)
  have e1 : s.vm.findClass ("[" ++ FieldType.long.toString) = some cA := (hK1.2 tys.length (cA, .long) (by rw [List.getElem?_append_right (Nat.le_refl _), Nat.sub_self]; rfl)).2
  have e2 : s.vm.findClass ("[" ++ FieldType.long.toString) = some cL := (hK.2 t0 _ ht0).2
  cases Option.some.inj (e1.symm.trans e2)
  refine W.widen (k := k + 1) (n := 6 * (k + 1)) (by omega) (by omega) ?_
  exact kk q H1 locs ls ⟨hP, hD, hS⟩ hl
theorem g_slen (hJ : IsG l D tys cc nL Ts own R (XL b L xs) J) (hdg : decode cc pc = .ok (.arraylength, 1)) (kk : J x k (pc + 1) lv (.int (iZ L) :: rest)) : J x k pc lv (.ref b :: rest) := by
  obtain ⟨p, e, s, m, args, below, meth, c, Q, A, ⟨hx, hb, hml, hown, hts⟩, hE, hE2, hK, hA, ⟨h1, h2, h3, h4⟩, rfl⟩ := hJ
  intro H locs ls hw hl
  refine va_slen hx hb h1 h2 h3 hw.2.2 hdg ?_
  have e9 : Int32.ofNat L = iZ (L : Int) := by first | exact (Int32.ofInt_eq_ofNat).symm | rfl
  rw [e9]
  exact kk H locs ls hw hl
theorem g_sld (hJ : IsG l D tys cc nL Ts own R (XL b L xs) J) {i : Int} {n : Nat} (hn : i = n) (hi : n < L) (hL : L ≤ 2560) (hdg : decode cc pc = .ok (.iaload, 1)) (kk : J x k (pc + 1) lv (.int (iZ (xs n).toInt) :: rest)) : J x k pc lv (.int (iZ i) :: .ref b :: rest) := by
  subst hn
  obtain ⟨p, e, s, m, args, below, meth, c, Q, A, ⟨hx, hb, hml, hown, hts⟩, hE, hE2, hK, hA, ⟨h1, h2, h3, h4⟩, rfl⟩ := hJ
  intro H locs ls hw hl
  refine va_sld hx hb h1 h2 h3 hw.2.2 (iZ_in ⟨by omega, by omega⟩ (by omega)) hdg ?_
  rw [iZ_clamp ⟨by omega, by omega⟩, Int.toNat_natCast]
  have := kk H locs ls hw hl
  rw [iZ_of] at this
  exact this
theorem g_arg (hJ : IsG l D tys cc nL Ts own R (XL b L xs) J) {i c : Int} {n : Nat} (hn : i + c = n) (hi : n < L) (hL : L ≤ 2560) (h0 : lvg lv 0 = some (.ref b)) (h4 : lvg lv 4 = some (.int (iZ i))) (d1 : decode cc pc = .ok (.aload_n 0, 1)) (d2 : decode cc (pc + 1) = .ok (.iload 4, 2)) (d3 : decode cc (pc + 3) = .ok (.iconst c, 1)) (d4 : decode cc (pc + 4) = .ok (.iadd, 1)) (d5 : decode cc (pc + 5) = .ok (.iaload, 1))
    (kk : J x k (pc + 6) lv (.int (iZ (xs n).toInt) :: rest)) : J x k pc lv rest := by
  refine g_aload_n hJ d1 h0 ?_
  refine g_iload hJ d2 h4 ?_
  refine g_iconst hJ d3 ?_
  refine g_iadd hJ d4 ?_
  exact g_sld hJ hn hi hL d5 kk
theorem g_long (hJ : IsG l D tys cc nL Ts RL R (XL b L xs) J) {i : Int} {n2 n3 : Nat} (hn2 : i + 2 = n2) (hn3 : i + 3 = n3) (hi2 : n2 < L) (hi3 : n3 < L) (hL : L ≤ 2560) (h0 : lvg lv 0 = some (.ref b)) (h4 : lvg lv 4 = some (.int (iZ i))) (hin : Jvm.Cond.constantLong RL 71 4294967295 ∈ Ts) (d1 : decode cc pc = .ok (.aload_n 0, 1)) (d2 : decode cc (pc + 1) = .ok (.iload 4, 2)) (d3 : decode cc (pc + 3) = .ok (.iconst 2, 1)) (d4 : decode cc (pc + 4) = .ok (.iadd, 1)) (d5 : decode cc (pc + 5) = .ok (.iaload, 1))
    (e1 : decode cc (pc + 6) = .ok (.i2l, 1)) (e2 : decode cc (pc + 7) = .ok (.bipush 32, 2)) (e3 : decode cc (pc + 9) = .ok (.lshl, 1)) (f1 : decode cc (pc + 10) = .ok (.aload_n 0, 1)) (f2 : decode cc (pc + 11) = .ok (.iload 4, 2)) (f3 : decode cc (pc + 13) = .ok (.iconst 3, 1)) (f4 : decode cc (pc + 14) = .ok (.iadd, 1)) (f5 : decode cc (pc + 15) = .ok (.iaload, 1))
    (g1 : decode cc (pc + 16) = .ok (.i2l, 1)) (g2 : decode cc (pc + 17) = .ok (.ldc2_w 71, 3)) (g3 : decode cc (pc + 20) = .ok (.land, 1)) (g4 : decode cc (pc + 21) = .ok (.lor, 1))
    (kk : J x k (pc + 22) lv (.long (lZ ((xs n2).toInt * ((2 ^ 32 : Nat) : Int) + (xs n3).toInt % 4294967296)) :: rest)) : J x k pc lv rest := by
  refine g_arg hJ hn2 hi2 hL h0 h4 d1 d2 d3 d4 d5 ?_
  refine g_i2l hJ (i32_v _) e1 ?_
  refine g_bipush hJ (by decide) e2 ?_
  refine g_lshl (n := 32) hJ (by decide) e3 ?_
  refine g_arg hJ hn3 hi3 hL h0 h4 f1 f2 f3 f4 f5 ?_
  refine g_low hJ hin g1 g2 g3 ?_
  refine g_lor hJ (lZ_or (n := 32) (by decide) ⟨by omega, by omega⟩) g4 ?_
  exact kk
theorem i64_hl (h z : Int32) : i64 (h.toInt * ((2 ^ 32 : Nat) : Int) + z.toInt % 4294967296) := by
  have h1 := i32_v h
  unfold i32 at h1
  have h2 : ((2 ^ 32 : Nat) : Int) = 4294967296 := by decide
  rw [h2]
  exact ⟨by omega, by omega⟩
theorem g_ieq (hJ : IsG l D tys cc nL Ts own R X J) {u v : Int32} {off : Int} {tgt : Nat} (hv : u = v) (ht : (pc : Int) + off = (tgt : Int)) (hdg : decode cc pc = .ok (.if_icmp .eq off, 3)) (kk : J x k tgt lv rest) : J x k pc lv (.int v :: .int u :: rest) := by
  obtain ⟨p, e, s, m, args, below, meth, c, Q, A, ⟨hx, hb, hml, hown, hts⟩, hE, hE2, hK, hA, hX, rfl⟩ := hJ
  intro H locs ls hw hl
  exact lv_icmp_eq hx hb hdg ht (fun _ => kk H locs ls hw hl) (fun q => absurd hv q)
theorem g_leq (hJ : IsG l D tys cc nL Ts own R X J) {u : Int64} {v : Int32} {off : Int} {tgt : Nat} (hv : u = v.toInt64) (ht : ((pc + 1 : Nat) : Int) + off = (tgt : Int)) (d1 : decode cc pc = .ok (.lcmp, 1)) (hdg : decode cc (pc + 1) = .ok (.ifCond .eq off, 3)) (kk : J x k tgt lv rest) : J x k pc lv (.long v.toInt64 :: .long u :: rest) := by
  subst hv
  have e : v.toInt64 = lZ v.toInt := by
    have h := i2lZ (i32_v v)
    rwa [iZ_of] at h
  have h6 : i64 v.toInt := ⟨by have := (i32_v v).1; omega, by have := (i32_v v).2; omega⟩
  rw [e]
  exact g_lcmp_eq hJ ht h6 h6 d1 hdg (fun _ => kk) (fun q => absurd rfl q)
theorem g_laload (hJ : IsG l D tys cc nL Ts own R X J) {cI cO cL : ClassId} {a : Nat → Nat} {Z : ZZ} {o t0 : Nat} {f : Nat → Int64} {r2 : va_W} (ht0 : tys[t0]? = some (cL, .long)) (hdg : decode cc pc = .ok (.laload, 1)) (kk : J ((wX cI cO a Z ++ wO cL o f) ++ r2) k (pc + 1) lv (.long (f 0) :: rest)) : J ((wX cI cO a Z ++ wO cL o f) ++ r2) k pc lv (.int (iZ 0) :: .ref o :: rest) := by
  obtain ⟨p, e, s, m, args, below, meth, c, Q, A, ⟨hx, hb, hml, hown, hts⟩, hE, hE2, hK, hA, hX, rfl⟩ := hJ
  intro H locs ls hw hl
  refine va_lald hx hb hK (va_P_app.mp hw.1).1 19 t0 (cA := cL) (n := 1) (f := f) rfl ht0 (iZ_in ⟨by decide, by decide⟩ (by decide)) hdg ?_
  exact kk H locs ls hw hl
theorem g_tabOut (hJ : IsG l D tys cc nL Ts own R X J) {dflt lo hi z : Int} {offs : Array Int} {len tgt : Nat} (hz : i32 z) (h : z < lo ∨ hi < z) (ht : (pc : Int) + dflt = (tgt : Int)) (hdg : decode cc pc = .ok (.tableswitch dflt lo hi offs, len)) (kk : J x k tgt lv rest) : J x k pc lv (.int (iZ z) :: rest) := by
  obtain ⟨p, e, s, m, args, below, meth, c, Q, A, ⟨hx, hb, hml, hown, hts⟩, hE, hE2, hK, hA, hX, rfl⟩ := hJ
  intro H locs ls hw hl
  exact lv_tableOut hx hb hdg (by rw [iZ_toInt hz]; exact h) ht (kk H locs ls hw hl)
theorem g_tabIn (hJ : IsG l D tys cc nL Ts own R X J) {dflt lo hi z off : Int} {offs : Array Int} {len tgt j : Nat} (hz : i32 z) (h1 : lo ≤ z) (h2 : z ≤ hi) (hj : (z - lo).toNat = j) (ho : offs[j]? = some off) (ht : (pc : Int) + off = (tgt : Int)) (hdg : decode cc pc = .ok (.tableswitch dflt lo hi offs, len)) (kk : J x k tgt lv rest) : J x k pc lv (.int (iZ z) :: rest) := by
  obtain ⟨p, e, s, m, args, below, meth, c, Q, A, ⟨hx, hb, hml, hown, hts⟩, hE, hE2, hK, hA, hX, rfl⟩ := hJ
  intro H locs ls hw hl
  exact lv_tableIn hx hb hdg (by rw [iZ_toInt hz]; omega) (by rw [iZ_toInt hz]; omega) (by rw [iZ_toInt hz, hj]; exact ho) ht (kk H locs ls hw hl)
theorem g_callM (hJ : IsG l D tys cc nL Ts own R X J) {cI : ClassId} {a2 : Nat → Nat} {Z2 : ZZ} {y : MethodName} {ws ws' : List Cond} {bytes : ByteArray} {maxL index n F1 kc L1 : Nat} {ret : Option FieldType} {As st : List Value} {po : Option Value → ZZ → Prop} {r1 : va_W}
    (hM : Ct l D (tM cI) (wM cI a2) y ws F1 kc L1 (.ref (a2 0) :: As) Z2 po nX) (hst : st = As.reverse ++ .ref (a2 0) :: rest) (hG : GoodIn Ts (wsV own index RX1 y ws)) (hw : ws = Cond.code y bytes maxL ret :: ws')
    (hd : y.cls = RX1 ∧ y.cls ≠ "java/lang/invoke/MethodHandle" ∧ y.cls ≠ "java/lang/invoke/VarHandle" ∧ (parseMethodDescriptor y.desc).map (fun d => d.parameters.length) = some n) (hn : As.length = n)
    (hR : F1 + 1 ≤ R.frames ∧ 8 + (maxL + 11) + L1 ≤ R.locals) (hrs : (rest.map fun v => v.category).sum ≤ 8) (hk : k + kc ≤ R.cells ∧ 6 * k + 6 * kc ≤ R.slots) (is : List Nat) (hty : is.filterMap (fun i => tys[i]?) = tM cI)
    (hdg : decode cc pc = .ok (.invokevirtual index, 3))
    (kk : ∀ r Z', po r Z' → J (r1 ++ wM cI a2 Z') (k + kc) (pc + 3) lv (r.toList ++ rest)) : J (r1 ++ wM cI a2 Z2) k pc lv st := by
  have e : r1 ++ wM cI a2 Z2 = r1 ++ (wM cI a2 Z2 ++ []) := by rw [List.append_nil]
  rw [e]
  refine g_callV (wf := wM cI a2) (r1 := r1) (r2 := []) (C := RX1) hJ hM hst hG hw hd hn hR hrs hk rfl rfl is hty hdg (fun E x' h => h) (fun r Z' h => ?_)
  rw [List.append_nil]
  exact kk r Z' h
theorem g_callW (hJ : IsG l D tys cc nL Ts own R X J) {tys' : List (ClassId × FieldType)} {y : MethodName} {ws ws' : List Cond} {bytes : ByteArray} {maxL index n F1 kc L1 : Nat} {ret : Option FieldType} {hh : List (Nat × Nat × Nat × Nat)} {As st : List Value} {w : va_W} {po : Option Value → va_W → Prop} {r2 : va_W}
    (hM : CtG l D tys' y ws F1 kc L1 As w po) (hst : st = As.reverse ++ rest) (hG : GoodIn Ts (va_wsS own index y ws)) (hw : ws = Cond.codeWith y bytes maxL ret hh :: ws')
    (hd : y.cls ≠ "java/lang/invoke/MethodHandle" ∧ y.cls ≠ "java/lang/invoke/VarHandle" ∧ (parseMethodDescriptor y.desc).map (fun d => d.parameters.length) = some n) (hn : As.length = n)
    (hR : F1 + 1 ≤ R.frames ∧ 8 + (maxL + 11) + L1 ≤ R.locals) (hrs : (rest.map fun v => v.category).sum ≤ 8) (hk : k + kc ≤ R.cells ∧ 6 * k + 6 * kc ≤ R.slots) (is : List Nat) (hty : is.filterMap (fun i => tys[i]?) = tys')
    (hdg : decode cc pc = .ok (.invokestatic index, 3))
    (kk : ∀ r w', po r w' → J (w' ++ r2) (k + kc) (pc + 3) lv (r.toList ++ rest)) : J (w ++ r2) k pc lv st :=
  g_callSX (r1 := []) (r2 := r2) hJ hM hst hG hw hd hn hR hrs hk is hty hdg kk
theorem l_room {k y kc : Nat} (h : k + 8 ≤ 601024) (hc : y + kc ≤ k + 8) : y + kc ≤ room_1.cells ∧ 6 * y + 6 * kc ≤ room_1.slots := by
  constructor
  · show y + kc ≤ 601024
    omega
  · show 6 * y + 6 * kc ≤ 7293034
    omega
theorem l_end (hJ : IsG l D tys code nL Ts own room_1 (XL b L xs) J) (hk : k ≤ 601024) (hdg : decode code pc = .ok (.ireturn, 1)) : J x k pc lv [.int (iZ 1)] := by
  obtain ⟨p, e, s, m, args, below, meth, c, Q, A, ⟨hx, hb, hml, hown, hts⟩, hE, hE2, hK, hA, ⟨h1, h2, h3, h4, h5, rfl, h7, rfl⟩, rfl⟩ := hJ
  intro H locs ls hw hl
  refine va_forget (fun q hq => h7 _ (hw.2.2.2.2 q hq)) ?_
  refine W.widen (k := 601024) (n := 7293034) hk (by omega) ?_
  rw [show iZ 1 = (1 : Int32) by decide]
  exact lw_ret hx hb h4 h5 hdg
end RLaw
