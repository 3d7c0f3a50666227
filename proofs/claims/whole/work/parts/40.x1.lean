section RXX
variable {σ : Type} {l : Launch} {D : va_G} {tys : List (ClassId × FieldType)} {wf : σ → va_W} {cc : ByteArray} {nL : Nat} {Ts : List Cond} {own : String} {F km LL : Nat} {rt : Option FieldType} {post : Option Value → σ → Prop} {px : String → σ → Prop} {J : JT σ}
variable {x : σ} {k pc : Nat} {lv : List (Nat × Value)} {rest : List Value}
theorem j_l2w (hJ : IsJ l D tys wf cc nL Ts own F km LL rt post px J) {a : Int} (hdg : decode cc pc = .ok (.l2i, 1)) (kk : J x k (pc + 1) lv (.int (iZ (a % 4294967296)) :: rest)) : J x k pc lv (.long (lZ a) :: rest) := by
  rw [iZ_mod] at kk
  exact j_l2i hJ hdg kk
theorem j_loww (hJ : IsJ l D tys wf cc nL Ts own F km LL rt post px J) {i : Nat} {a : Int} (hin : Jvm.Cond.constantLong own i 4294967295 ∈ Ts) (ha : 0 ≤ a ∧ a < 4294967296) (d1 : decode cc pc = .ok (.i2l, 1)) (d2 : decode cc (pc + 1) = .ok (.ldc2_w i, 3)) (d3 : decode cc (pc + 4) = .ok (.land, 1)) (kk : J x k (pc + 5) lv (.long (lZ a) :: rest)) : J x k pc lv (.int (iZ a) :: rest) := by
  rw [← Int.emod_eq_of_lt ha.1 ha.2] at kk
  rw [← Int.emod_eq_of_lt ha.1 ha.2, iZ_mod]
  exact j_low hJ hin d1 d2 d3 kk
abbrev nmX : List String := ["java/lang/RuntimeException", "java/lang/Exception"]
end RXX
section RXT
variable {σ : Type} {l : Launch} {D : va_G} {tys : List (ClassId × FieldType)} {wf : σ → va_W} {cc : ByteArray} {nL : Nat} {Ts : List Cond} {F km LL : Nat} {rt : Option FieldType} {post : Option Value → σ → Prop} {px : String → σ → Prop} {J : JT σ}
variable {x : σ} {k pc : Nat} {lv : List (Nat × Value)} {rest : List Value}
set_option maxRecDepth 20000 in
theorem bad_ioobe : ∀ w ∈ (vx_atS RX0 99 "java/lang/IndexOutOfBoundsException" nmX).filter (fun w => !goodWord w), w ∈ exW := by decide +kernel
set_option maxRecDepth 20000 in
theorem good_ioobe : ∀ w ∈ Cond.classLink RX0 95 "java/lang/IndexOutOfBoundsException" :: Cond.initialized "java/lang/IndexOutOfBoundsException" :: vx_atS RX0 99 "java/lang/IndexOutOfBoundsException" nmX, vx_ot w = true := by decide +kernel
theorem x_throw_ioobe (hJ : IsJ l D tys wf cc nL Ts RX0 F km LL rt post px J) (hl0 : l.stackTraces = false) {text : String} {is : Nat} (hk : Cond.classLink RX0 95 "java/lang/IndexOutOfBoundsException" ∈ Ts) (hini : Cond.initialized "java/lang/IndexOutOfBoundsException" ∈ Ts) (hT : (is, text) ∈ exT) (hat : ∀ w ∈ (vx_atS RX0 99 "java/lang/IndexOutOfBoundsException" nmX).filter goodWord, w ∈ Ts)
    (d0 : decode cc pc = .ok (.new 95, 3)) (d3 : decode cc (pc + 3) = .ok (.dup, 1)) (d4 : decode cc (pc + 4) = .ok (.ldc is, 2)) (d6 : decode cc (pc + 6) = .ok (.invokespecial 99, 3)) (d9 : decode cc (pc + 9) = .ok (.athrow, 1))
    (hF : 5 < F) (hLL : (rest.map fun v => v.category).sum + 82 ≤ LL) (hkm : k + 1 ≤ km) (hp : px "java/lang/IndexOutOfBoundsException" x) : J x k pc lv rest :=
  j_throwS hJ hl0 (names := nmX) (by decide +kernel) (by decide +kernel) hk hini hT hat bad_ioobe good_ioobe d0 d3 d4 d6 d9 hF hLL hkm hp
set_option maxRecDepth 20000 in
theorem bad_ise : ∀ w ∈ (vx_atS RX0 48 "java/lang/IllegalStateException" nmX).filter (fun w => !goodWord w), w ∈ exW := by decide +kernel
set_option maxRecDepth 20000 in
theorem good_ise : ∀ w ∈ Cond.classLink RX0 44 "java/lang/IllegalStateException" :: Cond.initialized "java/lang/IllegalStateException" :: vx_atS RX0 48 "java/lang/IllegalStateException" nmX, vx_ot w = true := by decide +kernel
theorem x_throw_ise (hJ : IsJ l D tys wf cc nL Ts RX0 F km LL rt post px J) (hl0 : l.stackTraces = false) {text : String} {is : Nat} (hk : Cond.classLink RX0 44 "java/lang/IllegalStateException" ∈ Ts) (hini : Cond.initialized "java/lang/IllegalStateException" ∈ Ts) (hT : (is, text) ∈ exT) (hat : ∀ w ∈ (vx_atS RX0 48 "java/lang/IllegalStateException" nmX).filter goodWord, w ∈ Ts)
    (d0 : decode cc pc = .ok (.new 44, 3)) (d3 : decode cc (pc + 3) = .ok (.dup, 1)) (d4 : decode cc (pc + 4) = .ok (.ldc is, 2)) (d6 : decode cc (pc + 6) = .ok (.invokespecial 48, 3)) (d9 : decode cc (pc + 9) = .ok (.athrow, 1))
    (hF : 5 < F) (hLL : (rest.map fun v => v.category).sum + 82 ≤ LL) (hkm : k + 1 ≤ km) (hp : px "java/lang/IllegalStateException" x) : J x k pc lv rest :=
  j_throwS hJ hl0 (names := nmX) (by decide +kernel) (by decide +kernel) hk hini hT hat bad_ise good_ise d0 d3 d4 d6 d9 hF hLL hkm hp
set_option maxRecDepth 20000 in
theorem bad_iae : ∀ w ∈ (vx_atS RX0 71 "java/lang/IllegalArgumentException" nmX).filter (fun w => !goodWord w), w ∈ exW := by decide +kernel
set_option maxRecDepth 20000 in
theorem good_iae : ∀ w ∈ Cond.classLink RX0 67 "java/lang/IllegalArgumentException" :: Cond.initialized "java/lang/IllegalArgumentException" :: vx_atS RX0 71 "java/lang/IllegalArgumentException" nmX, vx_ot w = true := by decide +kernel
theorem x_throw_iae (hJ : IsJ l D tys wf cc nL Ts RX0 F km LL rt post px J) (hl0 : l.stackTraces = false) {text : String} {is : Nat} (hk : Cond.classLink RX0 67 "java/lang/IllegalArgumentException" ∈ Ts) (hini : Cond.initialized "java/lang/IllegalArgumentException" ∈ Ts) (hT : (is, text) ∈ exT) (hat : ∀ w ∈ (vx_atS RX0 71 "java/lang/IllegalArgumentException" nmX).filter goodWord, w ∈ Ts)
    (d0 : decode cc pc = .ok (.new 67, 3)) (d3 : decode cc (pc + 3) = .ok (.dup, 1)) (d4 : decode cc (pc + 4) = .ok (.ldc is, 2)) (d6 : decode cc (pc + 6) = .ok (.invokespecial 71, 3)) (d9 : decode cc (pc + 9) = .ok (.athrow, 1))
    (hF : 5 < F) (hLL : (rest.map fun v => v.category).sum + 82 ≤ LL) (hkm : k + 1 ≤ km) (hp : px "java/lang/IllegalArgumentException" x) : J x k pc lv rest :=
  j_throwS hJ hl0 (names := nmX) (by decide +kernel) (by decide +kernel) hk hini hT hat bad_iae good_iae d0 d3 d4 d6 d9 hF hLL hkm hp
end RXT
section RAA
variable {l : Launch} {D : va_G} {cI : ClassId} {b n : Nat} {cc : ByteArray} {nL : Nat} {Ts : List Cond} {own : String} {F km LL : Nat} {rt : Option FieldType} {post : Option Value → (Nat → Int) → Prop} {px : String → (Nat → Int) → Prop} {J : JT (Nat → Int)}
variable {f : Nat → Int} {k pc : Nat} {lv : List (Nat × Value)} {rest : List Value}
theorem a_len (hJ : IsJ l D [(cI, .int)] (wA cI b n) cc nL Ts own F km LL rt post px J) (hdg : decode cc pc = .ok (.arraylength, 1)) (kk : J f k (pc + 1) lv (.int (iZ (n : Int)) :: rest)) : J f k pc lv (.ref b :: rest) := by
  obtain ⟨p, e, s, m, args, below, meth, c, A, ⟨hx, hb, hml, hown, hts⟩, hE, hM, hK, hA, rfl⟩ := hJ
  intro H locs ls hw hl
  exact va_alen hx hb hK hw.1 0 0 rfl (ty := .int) rfl (v := iZ (n : Int)) rfl hdg (kk H locs ls hw hl)
theorem a_ast (hJ : IsJ l D [(cI, .int)] (wA cI b n) cc nL Ts own F km LL rt post px J) {i v : Int} (hn : n < 2147483648) (hi : 0 ≤ i ∧ i < n) (hdg : decode cc pc = .ok (.iastore, 1)) (kk : J (fset f i.toNat v) k (pc + 1) lv rest) : J f k pc lv (.int (iZ v) :: .int (iZ i) :: .ref b :: rest) := by
  obtain ⟨p, e, s, m, args, below, meth, c, A, ⟨hx, hb, hml, hown, hts⟩, hE, hM, hK, hA, rfl⟩ := hJ
  intro H locs ls hw hl
  refine va_iast hx hb hK hw.1 hw.2.1 hw.2.2 0 0 rfl rfl (iZ_in hi hn) hdg (fun H1 locs1 hP hD hS => ?_)
  rw [iZ_clamp ⟨hi.1, by omega⟩, upd_iZ] at hP hD
  exact kk H1 locs1 ls ⟨hP, hD, hS⟩ hl
end RAA
set_option maxRecDepth 20000 in
theorem kJ7_fill (l : Launch) (D : va_G) (cI : ClassId) (b n : Nat) (f : Nat → Int) (v : Int) (hn : n < 2147483647) : Ct l D [(cI, .int)] (wA cI b n) yJ7_fill_53178 wsJ7_fill_53178 0 0 0 [.ref b, .int (iZ v)] f (fun w f' => w = none ∧ f' = fun i => if i < n then v else f i) nX := by
  refine Ct.of (cc := cJ7_fill_53178) (maxL := 4) (ret := none) rfl (by decide) rfl (Nat.le_of_ble_eq_true rfl) (fun J hJ => ?_)
  have loop : ∀ (m i : Nat), i + m = n → J (fun q => if q < i then v else f q) 0 5 [(0, .ref b), (1, .int (iZ v)), (2, .int (iZ i)), (3, .int (iZ n))] [] := by
    intro m
    induction m with
    | zero =>
      intro i hm
      refine j_iload_n hJ dJ7_fill_53178_5 rfl ?_
      refine j_iload_n hJ dJ7_fill_53178_6 rfl ?_
      refine j_icmp_ge (tgt := 20) hJ (by decide) ⟨by omega, by omega⟩ ⟨by omega, by omega⟩ dJ7_fill_53178_7 (fun h => ?_) (fun h => by omega)
      exact j_vret hJ (Nat.le_of_ble_eq_true rfl) (⟨rfl, by rw [show i = n by omega]⟩) dJ7_fill_53178_20
    | succ m ih =>
      intro i hm
      refine j_iload_n hJ dJ7_fill_53178_5 rfl ?_
      refine j_iload_n hJ dJ7_fill_53178_6 rfl ?_
      refine j_icmp_ge (tgt := 20) hJ (by decide) ⟨by omega, by omega⟩ ⟨by omega, by omega⟩ dJ7_fill_53178_7 (fun h => by omega) (fun h => ?_)
      refine j_aload_n hJ dJ7_fill_53178_10 rfl ?_
      refine j_iload_n hJ dJ7_fill_53178_11 rfl ?_
      refine j_iload_n hJ dJ7_fill_53178_12 rfl ?_
      refine a_ast hJ (by omega) ⟨by omega, by omega⟩ dJ7_fill_53178_13 ?_
      refine j_iinc hJ (by decide) dJ7_fill_53178_14 rfl ?_
      refine j_goto (tgt := 5) hJ (by decide) dJ7_fill_53178_17 ?_
      have e : fset (fun q => if q < i then v else f q) ((i : Int)).toNat v = fun q => if q < i + 1 then v else f q := by
        funext q
        unfold fset
        by_cases h1 : q = (i : Int).toNat
        · rw [if_pos h1, if_pos (by omega)]
        · rw [if_neg h1]
          show (if q < i then v else f q) = _
          by_cases h2 : q < i
          · rw [if_pos h2, if_pos (by omega)]
          · rw [if_neg h2, if_neg (by omega)]
      rw [e]
      exact j_re hJ (ih (i + 1) (by omega)) ⟨rfl, rfl, rfl, rfl, trivial⟩
  refine j_iconst hJ dJ7_fill_53178_0 ?_
  refine j_istore_n hJ (by decide) dJ7_fill_53178_1 ?_
  refine j_aload_n hJ dJ7_fill_53178_2 rfl ?_
  refine a_len hJ dJ7_fill_53178_3 ?_
  refine j_istore_n hJ (by decide) dJ7_fill_53178_4 ?_
  have h9 := loop n 0 (by omega)
  rw [show (fun q => if q < 0 then v else f q) = f from funext fun q => if_neg (by omega)] at h9
  exact j_re hJ h9 ⟨rfl, rfl, rfl, rfl, trivial⟩
section RFX
variable {l : Launch} {D : va_G} {cI cO : ClassId} {a : Nat → Nat} {cc : ByteArray} {nL : Nat} {Ts : List Cond} {F km LL : Nat} {rt : Option FieldType} {post : Option Value → ZZ → Prop} {px : String → ZZ → Prop} {J : JT ZZ}
variable {Z : ZZ} {k pc : Nat} {lv : List (Nat × Value)} {rest : List Value}
/-- Arrays.fill over one of the class's arrays -/
theorem x_fill (hJ : IsJ l D (tX cI cO) (wX cI cO a) cc nL Ts RX0 F km LL rt post px J) {j N : Nat} {v : Int} (hj : j < 17) (hN : xln j = N) (hG : GoodIn Ts (va_wsS RX0 34 yJ7_fill_53178 wsJ7_fill_53178)) (hR : 0 + 1 ≤ F ∧ 8 + (4 + 11) + 0 ≤ LL) (hrs : (rest.map fun v => v.category).sum ≤ 8) (hk : k ≤ km) (hdg : decode cc pc = .ok (.invokestatic 34, 3))
    (kk : J (zrw Z j N (fun _ => v)) k (pc + 3) lv rest) : J Z k pc lv (.int (iZ v) :: .ref (a (j + 2)) :: rest) := by
  subst hN
  refine j_callA hJ (kJ7_fill l D cI (a (j + 2)) (xln j) (Z j) v (by unfold xln; (repeat' split) <;> omega)) (rest := rest) rfl hG rfl hsJ7_fill_53178 rfl hR hrs hk (wX_at cI cO a Z hj) (t0 := 0) rfl hdg (fun r f' hp => ?_)
  obtain ⟨rfl, rfl⟩ := hp
  refine ⟨zrw Z j (xln j) (fun _ => v), ?_, kk⟩
  refine (wX_set cI cO a Z hj ?_ (fun j' h => zrw_off h)).symm
  funext i
  show iZ (if i < xln j then v else Z j i) = iZ (if j = j ∧ i < xln j then v else Z j i)
  by_cases h : i < xln j
  · rw [if_pos h, if_pos ⟨rfl, h⟩]
  · rw [if_neg h, if_neg (fun q => h q.2)]
end RFX
