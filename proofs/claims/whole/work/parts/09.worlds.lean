/-! the worlds: of the class, of the reference, of one array -/
abbrev ZZ : Type := Nat → Nat → Int
def zup (Z : ZZ) (j i : Nat) (v : Int) : ZZ := fun j' i' => if j' = j ∧ i' = i then v else Z j' i'
theorem zup_eq (Z : ZZ) (j i : Nat) (v : Int) : zup Z j i v j i = v := if_pos ⟨rfl, rfl⟩
theorem zup_ne {Z : ZZ} {j i j' i' : Nat} {v : Int} (h : ¬ (j' = j ∧ i' = i)) : zup Z j i v j' i' = Z j' i' := if_neg h
/-- the lengths of the class's arrays: counts, signs, result, left, divisor, twelve rows -/
def xln (j : Nat) : Nat := if j < 2 then 12 else if j = 2 then 513 else if j = 3 then 514 else if j = 4 then 513 else 512
theorem xln_lt (j : Nat) : xln j < 2147483648 := by unfold xln; (repeat' split) <;> omega
def wX (cI cO : ClassId) (a : Nat → Nat) (Z : ZZ) : va_W :=
  (a 0, .inr (0, [.ref (a 1), .ref (a 2), .ref (a 3), .ref (a 4), .ref (a 5), .ref (a 6)])) :: (a 1, .inl (cO, 12, .inr (.inr (.inr (.inr (fun i => some (a (i + 7)))))))) :: (List.range 17).map (fun j => (a (j + 2), .inl (cI, xln j, .inl (fun i => iZ (Z j i)))))
abbrev tX (cI cO : ClassId) : List (ClassId × FieldType) := [(cI, .int), (cO, .array .int)]
def wM (cI : ClassId) (a : Nat → Nat) (Z : ZZ) : va_W :=
  [(a 0, .inr (1, [.int (iZ (Z 0 0)), .ref (a 1), .ref (a 2)])), (a 1, .inl (cI, 16, .inl (fun i => iZ (Z 1 i)))), (a 2, .inl (cI, 33600, .inl (fun i => iZ (Z (i / 2100 + 2) (i % 2100)))))]
abbrev tM (cI : ClassId) : List (ClassId × FieldType) := [(cI, .int)]
/-- one array of n ints -/
def wA (cI : ClassId) (b n : Nat) (f : Nat → Int) : va_W := [(b, .inl (cI, n, .inl (fun i => iZ (f i))))]
theorem wX_at (cI cO : ClassId) (a : Nat → Nat) (Z : ZZ) {j : Nat} (hj : j < 17) : (wX cI cO a Z)[j + 2]? = some (a (j + 2), .inl (cI, xln j, .inl (fun i => iZ (Z j i)))) := by
  show ((List.range 17).map _)[j]? = _
  rw [List.getElem?_map, List.getElem?_range hj]; rfl
theorem wX_set (cI cO : ClassId) (a : Nat → Nat) (Z : ZZ) {j : Nat} (hj : j < 17) {Z' : ZZ} {g : Nat → Int32} (hg : g = fun i => iZ (Z' j i)) (ho : ∀ j', j' ≠ j → Z' j' = Z j') : (wX cI cO a Z).set (j + 2) (a (j + 2), .inl (cI, xln j, .inl g)) = wX cI cO a Z' := by
  subst hg
  show _ :: _ :: ((List.range 17).map _).set j _ = _
  unfold wX
  congr 2
  apply List.ext_getElem?
  intro i
  by_cases hi : i < 17
  · by_cases hij : j = i
    · subst hij
      rw [List.getElem?_set_self (by simpa using hj), List.getElem?_map, List.getElem?_range hj]; rfl
    · rw [List.getElem?_set_ne hij, List.getElem?_map, List.getElem?_map, List.getElem?_range hi]
      have h9 := ho i (fun q => hij q.symm)
      simp only [Option.map_some, h9]
  · rw [List.getElem?_eq_none (by simpa using hi), List.getElem?_eq_none (by simpa using hi)]
theorem upd_iZ (f : Nat → Int) (n : Nat) (v : Int) : upd (fun i => iZ (f i)) n (iZ v) = fun i => iZ (if i = n then v else f i) := by
  funext i
  unfold upd
  split <;> rfl
theorem zup_row (Z : ZZ) (j i : Nat) (v : Int) : (fun i' => iZ (if i' = i then v else Z j i')) = fun i' => iZ (zup Z j i v j i') := by
  funext i'
  unfold zup
  by_cases h : i' = i
  · rw [if_pos h, if_pos ⟨rfl, h⟩]
  · rw [if_neg h, if_neg (fun q => h q.2)]
theorem zup_off (Z : ZZ) (j i : Nat) (v : Int) {j' : Nat} (h : j' ≠ j) : zup Z j i v j' = Z j' := by
  funext i'
  exact if_neg (fun q => h q.1)
section RX
variable {l : Launch} {D : va_G} {cI cO : ClassId} {a : Nat → Nat} {cc : ByteArray} {nL : Nat} {Ts : List Cond} {F km LL : Nat} {rt : Option FieldType} {post : Option Value → ZZ → Prop} {px : String → ZZ → Prop} {J : JT ZZ}
variable {Z : ZZ} {k pc : Nat} {lv : List (Nat × Value)} {rest : List Value}
theorem x_ald (hJ : IsJ l D (tX cI cO) (wX cI cO a) cc nL Ts RX0 F km LL rt post px J) {i : Int} {j : Nat} (hj : j < 17) (hi : 0 ≤ i ∧ i < xln j) (hdg : decode cc pc = .ok (.iaload, 1))
    (kk : J Z k (pc + 1) lv (.int (iZ (Z j i.toNat)) :: rest)) : J Z k pc lv (.int (iZ i) :: .ref (a (j + 2)) :: rest) := by
  obtain ⟨p, e, s, m, args, below, meth, c, A, ⟨hx, hb, hml, hown, hts⟩, hE, hM, hK, hA, rfl⟩ := hJ
  intro H locs ls hw hl
  have hln := xln_lt j
  refine va_iald hx hb hK hw.1 (j + 2) 0 (wX_at cI cO a Z hj) rfl (iZ_in hi hln) hdg ?_
  rw [iZ_clamp ⟨hi.1, by omega⟩]
  exact kk H locs ls hw hl
theorem x_ast (hJ : IsJ l D (tX cI cO) (wX cI cO a) cc nL Ts RX0 F km LL rt post px J) {i v : Int} {j : Nat} (hj : j < 17) (hi : 0 ≤ i ∧ i < xln j) (hdg : decode cc pc = .ok (.iastore, 1))
    (kk : J (zup Z j i.toNat v) k (pc + 1) lv rest) : J Z k pc lv (.int (iZ v) :: .int (iZ i) :: .ref (a (j + 2)) :: rest) := by
  obtain ⟨p, e, s, m, args, below, meth, c, A, ⟨hx, hb, hml, hown, hts⟩, hE, hM, hK, hA, rfl⟩ := hJ
  intro H locs ls hw hl
  have hln := xln_lt j
  refine va_iast hx hb hK hw.1 hw.2.1 hw.2.2 (j + 2) 0 (wX_at cI cO a Z hj) rfl (iZ_in hi hln) hdg (fun H1 locs1 hP hD hS => ?_)
  rw [iZ_clamp ⟨hi.1, by omega⟩, upd_iZ, zup_row, wX_set cI cO a Z hj rfl (fun j' h => zup_off Z j _ v h)] at hP hD
  exact kk H1 locs1 ls ⟨hP, hD, hS⟩ hl
theorem x_row (hJ : IsJ l D (tX cI cO) (wX cI cO a) cc nL Ts RX0 F km LL rt post px J) {i : Int} (hi : 0 ≤ i ∧ i < 12) (hdg : decode cc pc = .ok (.aaload, 1))
    (kk : J Z k (pc + 1) lv (.ref (a (i.toNat + 7)) :: rest)) : J Z k pc lv (.int (iZ i) :: .ref (a 1) :: rest) := by
  obtain ⟨p, e, s, m, args, below, meth, c, A, ⟨hx, hb, hml, hown, hts⟩, hE, hM, hK, hA, rfl⟩ := hJ
  intro H locs ls hw hl
  have hin : vp_in (iZ i) 12 := iZ_in hi (by decide)
  have hlt : (iZ i).toNatClampNeg < 12 := Nat.not_le.mp fun q => hin (Or.inr q)
  refine W.aald (v := .ref (a ((iZ i).toNatClampNeg + 7))) (ty := .array .int) hx hb (hw.1 1 _ rfl) ((hK.2 1 _ rfl).1 12 (fun j => va_rf (some (a (j + 7))))) rfl (fun q => by cases q) (by show ¬ (iZ i < 0 ∨ (arrV _ _ _).slots.size ≤ _); rw [arrV_size]; exact hin) (by show (arrV _ _ _).slots[_]? = _; rw [arrV_read _ _ hlt]; rfl) rfl rfl hdg ?_
  rw [iZ_clamp ⟨hi.1, by omega⟩]
  exact kk H locs ls hw hl
theorem x_words (hJ : IsJ l D (tX cI cO) (wX cI cO a) cc nL Ts RX0 F km LL rt post px J) (hin : ∀ w ∈ u_ws RX0 TX0 6, w ∈ Ts) (hf : Cond.fieldLink RX0 11 "WholeRegisters" "words" "[[I" ∈ Ts) (hdg : decode cc pc = .ok (.getfield 11, 3))
    (kk : J Z k (pc + 3) lv (.ref (a 1) :: rest)) : J Z k pc lv (.ref (a 0) :: rest) := by
  obtain ⟨p, e, s, m, args, below, meth, c, A, ⟨hx, hb, hml, hown, hts⟩, hE, hM, hK, hA, rfl⟩ := hJ
  intro H locs ls hw hl
  exact va_get (D := D) (ci := 0) (v := .ref (a 1)) (C := RX0) (T := TX0) (N := 6) hx hb hts hin hown hK hw.1 0 rfl rfl 0 (by decide) (hts _ hf) (fun _ h9 => h9) rfl hdg (kk H locs ls hw hl)
theorem x_counts (hJ : IsJ l D (tX cI cO) (wX cI cO a) cc nL Ts RX0 F km LL rt post px J) (hin : ∀ w ∈ u_ws RX0 TX0 6, w ∈ Ts) (hf : Cond.fieldLink RX0 14 "WholeRegisters" "counts" "[I" ∈ Ts) (hdg : decode cc pc = .ok (.getfield 14, 3))
    (kk : J Z k (pc + 3) lv (.ref (a 2) :: rest)) : J Z k pc lv (.ref (a 0) :: rest) := by
  obtain ⟨p, e, s, m, args, below, meth, c, A, ⟨hx, hb, hml, hown, hts⟩, hE, hM, hK, hA, rfl⟩ := hJ
  intro H locs ls hw hl
  exact va_get (D := D) (ci := 0) (v := .ref (a 2)) (C := RX0) (T := TX0) (N := 6) hx hb hts hin hown hK hw.1 0 rfl rfl 1 (by decide) (hts _ hf) (fun _ h9 => h9) rfl hdg (kk H locs ls hw hl)
theorem x_signs (hJ : IsJ l D (tX cI cO) (wX cI cO a) cc nL Ts RX0 F km LL rt post px J) (hin : ∀ w ∈ u_ws RX0 TX0 6, w ∈ Ts) (hf : Cond.fieldLink RX0 18 "WholeRegisters" "signs" "[I" ∈ Ts) (hdg : decode cc pc = .ok (.getfield 18, 3))
    (kk : J Z k (pc + 3) lv (.ref (a 3) :: rest)) : J Z k pc lv (.ref (a 0) :: rest) := by
  obtain ⟨p, e, s, m, args, below, meth, c, A, ⟨hx, hb, hml, hown, hts⟩, hE, hM, hK, hA, rfl⟩ := hJ
  intro H locs ls hw hl
  exact va_get (D := D) (ci := 0) (v := .ref (a 3)) (C := RX0) (T := TX0) (N := 6) hx hb hts hin hown hK hw.1 0 rfl rfl 2 (by decide) (hts _ hf) (fun _ h9 => h9) rfl hdg (kk H locs ls hw hl)
theorem x_result (hJ : IsJ l D (tX cI cO) (wX cI cO a) cc nL Ts RX0 F km LL rt post px J) (hin : ∀ w ∈ u_ws RX0 TX0 6, w ∈ Ts) (hf : Cond.fieldLink RX0 21 "WholeRegisters" "result" "[I" ∈ Ts) (hdg : decode cc pc = .ok (.getfield 21, 3))
    (kk : J Z k (pc + 3) lv (.ref (a 4) :: rest)) : J Z k pc lv (.ref (a 0) :: rest) := by
  obtain ⟨p, e, s, m, args, below, meth, c, A, ⟨hx, hb, hml, hown, hts⟩, hE, hM, hK, hA, rfl⟩ := hJ
  intro H locs ls hw hl
  exact va_get (D := D) (ci := 0) (v := .ref (a 4)) (C := RX0) (T := TX0) (N := 6) hx hb hts hin hown hK hw.1 0 rfl rfl 3 (by decide) (hts _ hf) (fun _ h9 => h9) rfl hdg (kk H locs ls hw hl)
theorem x_left (hJ : IsJ l D (tX cI cO) (wX cI cO a) cc nL Ts RX0 F km LL rt post px J) (hin : ∀ w ∈ u_ws RX0 TX0 6, w ∈ Ts) (hf : Cond.fieldLink RX0 24 "WholeRegisters" "left" "[I" ∈ Ts) (hdg : decode cc pc = .ok (.getfield 24, 3))
    (kk : J Z k (pc + 3) lv (.ref (a 5) :: rest)) : J Z k pc lv (.ref (a 0) :: rest) := by
  obtain ⟨p, e, s, m, args, below, meth, c, A, ⟨hx, hb, hml, hown, hts⟩, hE, hM, hK, hA, rfl⟩ := hJ
  intro H locs ls hw hl
  exact va_get (D := D) (ci := 0) (v := .ref (a 5)) (C := RX0) (T := TX0) (N := 6) hx hb hts hin hown hK hw.1 0 rfl rfl 4 (by decide) (hts _ hf) (fun _ h9 => h9) rfl hdg (kk H locs ls hw hl)
theorem x_divisor (hJ : IsJ l D (tX cI cO) (wX cI cO a) cc nL Ts RX0 F km LL rt post px J) (hin : ∀ w ∈ u_ws RX0 TX0 6, w ∈ Ts) (hf : Cond.fieldLink RX0 27 "WholeRegisters" "divisor" "[I" ∈ Ts) (hdg : decode cc pc = .ok (.getfield 27, 3))
    (kk : J Z k (pc + 3) lv (.ref (a 6) :: rest)) : J Z k pc lv (.ref (a 0) :: rest) := by
  obtain ⟨p, e, s, m, args, below, meth, c, A, ⟨hx, hb, hml, hown, hts⟩, hE, hM, hK, hA, rfl⟩ := hJ
  intro H locs ls hw hl
  exact va_get (D := D) (ci := 0) (v := .ref (a 6)) (C := RX0) (T := TX0) (N := 6) hx hb hts hin hown hK hw.1 0 rfl rfl 5 (by decide) (hts _ hf) (fun _ h9 => h9) rfl hdg (kk H locs ls hw hl)
end RX
/-- what a copy of n ints leaves: array j2 from dp on as array j1 from sp on -/
def zcp (Z : ZZ) (j1 sp j2 dp n : Nat) : ZZ := fun j i => if j = j2 ∧ dp ≤ i ∧ i < dp + n then Z j1 (sp + (i - dp)) else Z j i
theorem cpy_iZ (Z : ZZ) (j1 sp j2 dp n : Nat) : va_cpy (fun i => iZ (Z j1 i)) (fun i => iZ (Z j2 i)) sp dp n = fun i => iZ (zcp Z j1 sp j2 dp n j2 i) := by
  funext i
  unfold va_cpy zcp
  by_cases h : dp ≤ i ∧ i < dp + n
  · rw [if_pos h, if_pos ⟨rfl, h⟩]
  · rw [if_neg h, if_neg (fun q => h q.2)]
theorem zcp_off (Z : ZZ) (j1 sp j2 dp n : Nat) {j' : Nat} (h : j' ≠ j2) : zcp Z j1 sp j2 dp n j' = Z j' := by
  funext i'
  exact if_neg (fun q => h q.1)
section RY
variable {l : Launch} {D : va_G} {cI cO : ClassId} {a : Nat → Nat} {cc : ByteArray} {nL : Nat} {Ts : List Cond} {F km LL : Nat} {rt : Option FieldType} {post : Option Value → ZZ → Prop} {px : String → ZZ → Prop} {J : JT ZZ}
variable {Z : ZZ} {k pc : Nat} {lv : List (Nat × Value)} {rest : List Value}
theorem x_copy (hJ : IsJ l D (tX cI cO) (wX cI cO a) cc nL Ts RX0 F km LL rt post px J) {index : Nat} {sp dp n : Int} {j1 j2 : Nat} (hj1 : j1 < 17) (hj2 : j2 < 17) (h1 : 0 ≤ sp) (h2 : 0 ≤ dp) (h3 : 0 ≤ n) (h4 : sp + n ≤ xln j1) (h5 : dp + n ≤ xln j2)
    (w1 : Cond.methodLink RX0 index arraycopyName ∈ Ts) (w2 : Cond.native arraycopyName ∈ Ts) (w3 : Cond.static arraycopyName ∈ Ts) (w4 : Cond.initialized "java/lang/System" ∈ Ts) (hF : 1 ≤ F) (hL : (rest.map fun v => v.category).sum + (nativeFrameWords "java/lang/System" "arraycopy" 5 + 11) ≤ LL) (hdg : decode cc pc = .ok (.invokestatic index, 3))
    (kk : J (zcp Z j1 sp.toNat j2 dp.toNat n.toNat) k (pc + 3) lv rest) : J Z k pc lv (.int (iZ n) :: .int (iZ dp) :: .ref (a (j2 + 2)) :: .int (iZ sp) :: .ref (a (j1 + 2)) :: rest) := by
  obtain ⟨p, e, s, m, args, below, meth, c, A, ⟨hx, hb, hml, hown, hts⟩, hE, hM, hK, hA, rfl⟩ := hJ
  intro H locs ls hw hl
  have q1 := xln_lt j1
  have q2 := xln_lt j2
  have ng : ∀ z : Int, 0 ≤ z ∧ z < 2147483648 → ¬ iZ z < 0 := fun z hz q => by
    rw [iZ_0, iZ_lt ⟨by omega, by omega⟩ ⟨by omega, by omega⟩] at q; omega
  have c1 : (iZ sp).toNatClampNeg = sp.toNat := iZ_clamp ⟨h1, by omega⟩
  have c2 : (iZ dp).toNatClampNeg = dp.toNat := iZ_clamp ⟨h2, by omega⟩
  have c3 : (iZ n).toNatClampNeg = n.toNat := iZ_clamp ⟨h3, by omega⟩
  refine va_copyi hx hb (hml.trans hl.1.symm) hown (hts _ w1) (hts _ w2) (hts _ w3) (hts _ w4) hK hw.1 hw.2.1 hw.2.2 (j1 + 2) (j2 + 2) 0 0 (wX_at cI cO a Z hj1) (wX_at cI cO a Z hj2) rfl rfl rfl (ng sp ⟨h1, by omega⟩) (ng dp ⟨h2, by omega⟩) (ng n ⟨h3, by omega⟩) (by rw [c1, c3]; omega) (by rw [c2, c3]; omega) (fun i _ => rfl) hF hL hdg (fun H1 locs1 hP hD hS => ?_)
  rw [c1, c2, c3, cpy_iZ, wX_set cI cO a Z hj2 rfl (fun j' h => zcp_off Z j1 _ j2 _ _ h)] at hP hD
  exact kk H1 locs1 ls ⟨hP, hD, hS⟩ hl
end RY
/-! one array in a callee's hands -/
theorem va_P_one {D : va_G} {cl : List vw_C} {A : Nat → Prop} {p : Nat} {ws : va_W} {b : Nat} {e0 e : va_E} {H H1 : Heap} (h : va_P D cl ws H) (hD : va_D A ws) (hp : ws[p]? = some (b, e0)) (he : va_at D cl (b, e) H1) (oq : ∀ q : Nat, q < H.size → q ≠ b → H1[q]? = H[q]?) : va_P D cl (ws.set p (b, e)) H1 := by
  intro i q hq
  by_cases hi : p = i
  · subst hi
    rw [List.getElem?_set_self (List.getElem?_eq_some_iff.mp hp).1] at hq
    cases hq
    exact he
  · rw [List.getElem?_set_ne hi] at hq
    refine (h i q hq).kept (oq q.1 ((h i q hq).lt) (fun z => hi ?_))
    exact hD.1 p i _ _ hp hq z.symm
section RA
variable {σ : Type} {l : Launch} {D : va_G} {tys : List (ClassId × FieldType)} {wf : σ → va_W} {cc : ByteArray} {nL : Nat} {Ts : List Cond} {own : String} {F km LL : Nat} {rt : Option FieldType} {post : Option Value → σ → Prop} {px : String → σ → Prop} {J : JT σ}
variable {x : σ} {k pc : Nat} {lv : List (Nat × Value)} {rest : List Value}
theorem j_callA (hJ : IsJ l D tys wf cc nL Ts own F km LL rt post px J) {cI : ClassId} {b nA q0 t0 : Nat} {f : Nat → Int} {y : MethodName} {ws ws' : List Cond} {bytes : ByteArray} {maxL index n F1 L1 : Nat} {ret : Option FieldType} {As st : List Value} {po : Option Value → (Nat → Int) → Prop}
    (hM : Ct l D [(cI, .int)] (wA cI b nA) y ws F1 0 L1 As f po (fun _ _ => False)) (hst : st = As.reverse ++ rest) (hG : GoodIn Ts (va_wsS own index y ws)) (hw : ws = Cond.code y bytes maxL ret :: ws')
    (hd : y.cls ≠ "java/lang/invoke/MethodHandle" ∧ y.cls ≠ "java/lang/invoke/VarHandle" ∧ (parseMethodDescriptor y.desc).map (fun d => d.parameters.length) = some n) (hn : As.length = n)
    (hR : F1 + 1 ≤ F ∧ 8 + (maxL + 11) + L1 ≤ LL) (hrs : (rest.map fun v => v.category).sum ≤ 8) (hk : k ≤ km)
    (hq0 : (wf x)[q0]? = some (b, .inl (cI, nA, .inl (fun i => iZ (f i))))) (ht0 : tys[t0]? = some (cI, .int))
    (hdg : decode cc pc = .ok (.invokestatic index, 3))
    (kk : ∀ r f', po r f' → ∃ x', wf x' = (wf x).set q0 (b, .inl (cI, nA, .inl (fun i => iZ (f' i)))) ∧ J x' k (pc + 3) lv (r.toList ++ rest)) : J x k pc lv st := by
  subst hst
  obtain ⟨p, e, s, m, args, below, meth, c, A, ⟨hx, hb, hml, hown, hts⟩, hE, hMt, hK, hA, rfl⟩ := hJ
  intro H locs ls hww hl
  obtain ⟨hP, hD, hS⟩ := hww
  have hPc : va_P D vwCl (wA cI b nA f) H := hP.sub (ws' := wA cI b nA f) [q0] (by show [q0].filterMap _ = _; simp only [List.filterMap_cons, hq0, List.filterMap_nil]; rfl)
  have hDc : va_D A (wA cI b nA f) := hD.sub (ws' := wA cI b nA f) [q0] rfl (by show [(wf x)[q0]?] = _; rw [hq0]; rfl)
  have hKc : va_K D vwCl [(cI, .int)] s := hK.sub [t0] (by simp only [List.filterMap_cons, ht0, List.filterMap_nil])
  have hFc : ∀ q, va_A (wA cI b nA f) H.size q → A q := fun q h => h.elim (fun ⟨k9, e9, h9⟩ => hDc.2 k9 _ h9) (fun h9 => hA q (Nat.le_trans hS.1 h9))
  have hE1 : exZ A s H := hE.kept hS.2.1
  have hrun : vx_Run p l e (rmK F km LL) s m args below meth c H locs k (6 * k) 0 (6 * 0) (F0 m pc ls (As.reverse ++ rest)) rest _ _ _ := vx_runS (As := As) (rest := rest) (g := F0 m pc ls (As.reverse ++ rest)) ⟨hx, hb, hml, hown, hts⟩ (hM H.size) (va_cwS n hts hG hw rfl rfl hd hR)
    ⟨fun a U g mk q => by obtain ⟨q0, q1, qP, qK, qD, qE⟩ := q; exact ⟨q0, q1, qP, va_K.moved (u := U) (U := U.calling g mk a) (Vm.Alike.refl U.vm) qK, qD, exZ.warm (s := U) (U := U.calling g mk a) (State.WarmedH.refl U) qE⟩,
      fun U hU hW => ⟨rfl, by rw [hU], by rw [hU]; exact hPc, va_K.moved hW.alike hKc, hDc.weaken (fun _ _ _ _ => trivial), by rw [hU]; exact (hE1.narrow hFc).warm hW⟩⟩ rfl hn hl.1 rfl (lv_room hrs) hdg ⟨hk, by show 6 * k + 6 * 0 ≤ 6 * km; omega⟩
  intro T9 hT X
  rcases hrun T9 hT X with ⟨v, st₀, t, T', L, h0, X', hL, e1, e2, ⟨⟨r, u, hv, hp, hbb⟩, hF⟩, st⟩ | ⟨q, st₀, t, T', L, E, ce, h0, X', hL, e1, e2, ⟨u, hp, hbb, hF⟩, hce, hcv, hcl, st⟩
  · cases hv
    obtain ⟨k1, k2, k3⟩ := vx_keep h0 e1 hS (fun q _ h => hFc q h) hFc hL hF
    obtain ⟨x', hx', kk⟩ := kk v u hp
    have hb1 : va_at D vwCl (b, .inl (cI, nA, .inl (fun i => iZ (u i)))) T'.heap := by rw [e1]; exact hbb.1 0 _ rfl
    have hP' : va_P D vwCl (wf x') T'.heap := by
      rw [hx']
      refine va_P_one hP hD hq0 hb1 (fun q h1 h2 => k2 q h1 (fun z => ?_))
      rcases z with ⟨k9, e9, h9⟩ | z
      · rcases k9 with _ | k9
        · cases h9; exact h2 rfl
        · cases h9
      · omega
    have hD' : va_D A (wf x') := by rw [hx']; exact hD.set hq0
    obtain ⟨t2, a1, b1⟩ := kk T'.heap (locs ++ L) ls ⟨hP', hD', k3⟩ hl T' rfl X'
    exact ⟨t2, st t2 a1, b1⟩
  · exact hp.elim
end RA
section RM
variable {l : Launch} {D : va_G} {cI : ClassId} {a : Nat → Nat} {cc : ByteArray} {nL : Nat} {Ts : List Cond} {F km LL : Nat} {rt : Option FieldType} {post : Option Value → ZZ → Prop} {px : String → ZZ → Prop} {J : JT ZZ}
variable {Z : ZZ} {k pc : Nat} {lv : List (Nat × Value)} {rest : List Value}
theorem m_ald_sg (hJ : IsJ l D (tM cI) (wM cI a) cc nL Ts RX1 F km LL rt post px J) {i : Int} (hi : 0 ≤ i ∧ i < 16) (hdg : decode cc pc = .ok (.iaload, 1))
    (kk : J Z k (pc + 1) lv (.int (iZ (Z 1 i.toNat)) :: rest)) : J Z k pc lv (.int (iZ i) :: .ref (a 1) :: rest) := by
  obtain ⟨p, e, s, m, args, below, meth, c, A, ⟨hx, hb, hml, hown, hts⟩, hE, hM, hK, hA, rfl⟩ := hJ
  intro H locs ls hw hl
  refine va_iald hx hb hK hw.1 1 0 rfl rfl (iZ_in hi (by decide)) hdg ?_
  rw [iZ_clamp ⟨hi.1, by omega⟩]
  exact kk H locs ls hw hl
theorem m_ast_sg (hJ : IsJ l D (tM cI) (wM cI a) cc nL Ts RX1 F km LL rt post px J) {i v : Int} (hi : 0 ≤ i ∧ i < 16) (hdg : decode cc pc = .ok (.iastore, 1))
    (kk : J (zup Z 1 i.toNat v) k (pc + 1) lv rest) : J Z k pc lv (.int (iZ v) :: .int (iZ i) :: .ref (a 1) :: rest) := by
  obtain ⟨p, e, s, m, args, below, meth, c, A, ⟨hx, hb, hml, hown, hts⟩, hE, hM, hK, hA, rfl⟩ := hJ
  intro H locs ls hw hl
  have hset : (wM cI a Z).set 1 (a 1, .inl (cI, 16, .inl (fun i' => iZ (zup Z 1 i.toNat v 1 i')))) = wM cI a (zup Z 1 i.toNat v) := by
    unfold wM
    rw [zup_off Z 1 i.toNat v (j' := 0) (by decide), show (fun i' => iZ (zup Z 1 i.toNat v (i' / 2100 + 2) (i' % 2100))) = fun i' => iZ (Z (i' / 2100 + 2) (i' % 2100)) from funext fun i' => by rw [zup_off Z 1 i.toNat v (j' := i' / 2100 + 2) (by omega)]]
    rfl
  refine va_iast hx hb hK hw.1 hw.2.1 hw.2.2 1 0 rfl rfl (iZ_in hi (by decide)) hdg (fun H1 locs1 hP hD hS => ?_)
  rw [iZ_clamp ⟨hi.1, by omega⟩, upd_iZ, zup_row, hset] at hP hD
  exact kk H1 locs1 ls ⟨hP, hD, hS⟩ hl
theorem m_ald_dg (hJ : IsJ l D (tM cI) (wM cI a) cc nL Ts RX1 F km LL rt post px J) {i : Int} (hi : 0 ≤ i ∧ i < 33600) (hdg : decode cc pc = .ok (.iaload, 1))
    (kk : J Z k (pc + 1) lv (.int (iZ (Z (i.toNat / 2100 + 2) (i.toNat % 2100))) :: rest)) : J Z k pc lv (.int (iZ i) :: .ref (a 2) :: rest) := by
  obtain ⟨p, e, s, m, args, below, meth, c, A, ⟨hx, hb, hml, hown, hts⟩, hE, hM, hK, hA, rfl⟩ := hJ
  intro H locs ls hw hl
  refine va_iald hx hb hK hw.1 2 0 rfl rfl (iZ_in hi (by decide)) hdg ?_
  rw [iZ_clamp ⟨hi.1, by omega⟩]
  exact kk H locs ls hw hl
theorem m_ast_dg (hJ : IsJ l D (tM cI) (wM cI a) cc nL Ts RX1 F km LL rt post px J) {i v : Int} (hi : 0 ≤ i ∧ i < 33600) (hdg : decode cc pc = .ok (.iastore, 1))
    (kk : J (zup Z (i.toNat / 2100 + 2) (i.toNat % 2100) v) k (pc + 1) lv rest) : J Z k pc lv (.int (iZ v) :: .int (iZ i) :: .ref (a 2) :: rest) := by
  obtain ⟨p, e, s, m, args, below, meth, c, A, ⟨hx, hb, hml, hown, hts⟩, hE, hM, hK, hA, rfl⟩ := hJ
  intro H locs ls hw hl
  have hrow : (fun i' => iZ (if i' = i.toNat then v else Z (i' / 2100 + 2) (i' % 2100))) = fun i' => iZ (zup Z (i.toNat / 2100 + 2) (i.toNat % 2100) v (i' / 2100 + 2) (i' % 2100)) := by
    funext i'
    unfold zup
    by_cases h : i' = i.toNat
    · rw [if_pos h, if_pos ⟨by rw [h], by rw [h]⟩]
    · rw [if_neg h, if_neg (fun q => h (by omega))]
  have hset : (wM cI a Z).set 2 (a 2, .inl (cI, 33600, .inl (fun i' => iZ (zup Z (i.toNat / 2100 + 2) (i.toNat % 2100) v (i' / 2100 + 2) (i' % 2100))))) = wM cI a (zup Z (i.toNat / 2100 + 2) (i.toNat % 2100) v) := by
    unfold wM
    rw [zup_off Z (i.toNat / 2100 + 2) (i.toNat % 2100) v (j' := 0) (by omega), zup_off Z (i.toNat / 2100 + 2) (i.toNat % 2100) v (j' := 1) (by omega)]
    rfl
  refine va_iast hx hb hK hw.1 hw.2.1 hw.2.2 2 0 rfl rfl (iZ_in hi (by decide)) hdg (fun H1 locs1 hP hD hS => ?_)
  rw [iZ_clamp ⟨hi.1, by omega⟩] at hP hD
  rw [upd_iZ (fun i' => Z (i' / 2100 + 2) (i' % 2100)), hrow, hset] at hP hD
  exact kk H1 locs1 ls ⟨hP, hD, hS⟩ hl
theorem m_code (hJ : IsJ l D (tM cI) (wM cI a) cc nL Ts RX1 F km LL rt post px J) (hin : ∀ w ∈ u_ws RX1 TX1 3, w ∈ Ts) (hf : Cond.fieldLink RX1 17 "WholeRegistersModel" "code" "I" ∈ Ts) (hdg : decode cc pc = .ok (.getfield 17, 3))
    (kk : J Z k (pc + 3) lv (.int (iZ (Z 0 0)) :: rest)) : J Z k pc lv (.ref (a 0) :: rest) := by
  obtain ⟨p, e, s, m, args, below, meth, c, A, ⟨hx, hb, hml, hown, hts⟩, hE, hM, hK, hA, rfl⟩ := hJ
  intro H locs ls hw hl
  exact va_get (D := D) (ci := 1) (v := .int (iZ (Z 0 0))) (C := RX1) (T := TX1) (N := 3) hx hb hts hin hown hK hw.1 0 rfl rfl 0 (by decide) (hts _ hf) (fun _ h9 => h9) rfl hdg (kk H locs ls hw hl)
theorem m_sign (hJ : IsJ l D (tM cI) (wM cI a) cc nL Ts RX1 F km LL rt post px J) (hin : ∀ w ∈ u_ws RX1 TX1 3, w ∈ Ts) (hf : Cond.fieldLink RX1 7 "WholeRegistersModel" "sign" "[I" ∈ Ts) (hdg : decode cc pc = .ok (.getfield 7, 3))
    (kk : J Z k (pc + 3) lv (.ref (a 1) :: rest)) : J Z k pc lv (.ref (a 0) :: rest) := by
  obtain ⟨p, e, s, m, args, below, meth, c, A, ⟨hx, hb, hml, hown, hts⟩, hE, hM, hK, hA, rfl⟩ := hJ
  intro H locs ls hw hl
  exact va_get (D := D) (ci := 1) (v := .ref (a 1)) (C := RX1) (T := TX1) (N := 3) hx hb hts hin hown hK hw.1 0 rfl rfl 1 (by decide) (hts _ hf) (fun _ h9 => h9) rfl hdg (kk H locs ls hw hl)
theorem m_digits (hJ : IsJ l D (tM cI) (wM cI a) cc nL Ts RX1 F km LL rt post px J) (hin : ∀ w ∈ u_ws RX1 TX1 3, w ∈ Ts) (hf : Cond.fieldLink RX1 14 "WholeRegistersModel" "digits" "[I" ∈ Ts) (hdg : decode cc pc = .ok (.getfield 14, 3))
    (kk : J Z k (pc + 3) lv (.ref (a 2) :: rest)) : J Z k pc lv (.ref (a 0) :: rest) := by
  obtain ⟨p, e, s, m, args, below, meth, c, A, ⟨hx, hb, hml, hown, hts⟩, hE, hM, hK, hA, rfl⟩ := hJ
  intro H locs ls hw hl
  exact va_get (D := D) (ci := 1) (v := .ref (a 2)) (C := RX1) (T := TX1) (N := 3) hx hb hts hin hown hK hw.1 0 rfl rfl 2 (by decide) (hts _ hf) (fun _ h9 => h9) rfl hdg (kk H locs ls hw hl)
theorem m_putcode (hJ : IsJ l D (tM cI) (wM cI a) cc nL Ts RX1 F km LL rt post px J) {v : Int} (hin : ∀ w ∈ u_ws RX1 TX1 3, w ∈ Ts) (hf : Cond.fieldLink RX1 17 "WholeRegistersModel" "code" "I" ∈ Ts) (hdg : decode cc pc = .ok (.putfield 17, 3))
    (kk : J (zup Z 0 0 v) k (pc + 3) lv rest) : J Z k pc lv (.int (iZ v) :: .ref (a 0) :: rest) := by
  obtain ⟨p, e, s, m, args, below, meth, c, A, ⟨hx, hb, hml, hown, hts⟩, hE, hM, hK, hA, rfl⟩ := hJ
  intro H locs ls hw hl
  refine va_put (D := D) (ci := 1) (v := .int (iZ v)) (ty := .int) (C := RX1) (T := TX1) (N := 3) hx hb hts hin tyX1 tyX1_ok nmX1 hown hK hw.1 hw.2.1 hw.2.2 0 rfl rfl 0 (by decide) (hts _ hf) (fun _ h9 => h9) rfl (by decide +kernel) rfl rfl (Nat.le_of_ble_eq_true rfl) hdg (fun H1 locs1 hP hD hS => ?_)
  have hset : (wM cI a Z).set 0 (a 0, .inr (1, [.int (iZ (Z 0 0)), .ref (a 1), .ref (a 2)].set 0 (.int (iZ v)))) = wM cI a (zup Z 0 0 v) := by
    unfold wM
    rw [zup_eq, zup_off Z 0 0 v (j' := 1) (by decide), show (fun i' => iZ (zup Z 0 0 v (i' / 2100 + 2) (i' % 2100))) = fun i' => iZ (Z (i' / 2100 + 2) (i' % 2100)) from funext fun i' => by rw [zup_off Z 0 0 v (j' := i' / 2100 + 2) (by omega)]]
    rfl
  rw [hset] at hP hD
  exact kk H1 locs1 ls ⟨hP, hD, hS⟩ hl
end RM
/-- the first n of array j become f -/
def zrw (Z : ZZ) (j n : Nat) (f : Nat → Int) : ZZ := fun j' i => if j' = j ∧ i < n then f i else Z j' i
theorem zrw_0 (Z : ZZ) (j : Nat) (f : Nat → Int) : zrw Z j 0 f = Z := by
  funext j' i
  exact if_neg (fun h => by omega)
theorem zrw_succ (Z : ZZ) (j n : Nat) (f : Nat → Int) : zup (zrw Z j n f) j n (f n) = zrw Z j (n + 1) f := by
  funext j' i
  unfold zup zrw
  by_cases h : j' = j ∧ i = n
  · rw [if_pos h, if_pos ⟨h.1, by omega⟩, h.2]
  · rw [if_neg h]
    by_cases h2 : j' = j ∧ i < n
    · rw [if_pos h2, if_pos ⟨h2.1, by omega⟩]
    · rw [if_neg h2, if_neg (fun q => by rcases Nat.lt_or_ge i n with z | z; exact h2 ⟨q.1, z⟩; exact h ⟨q.1, by omega⟩)]
theorem zrw_in {Z : ZZ} {j n i : Nat} {f : Nat → Int} (h : i < n) : zrw Z j n f j i = f i := if_pos ⟨rfl, h⟩
theorem zrw_off {Z : ZZ} {j n : Nat} {f : Nat → Int} {j' : Nat} (h : j' ≠ j) : zrw Z j n f j' = Z j' := by
  funext i
  exact if_neg (fun q => h q.1)
theorem zrw_ge {Z : ZZ} {j n i : Nat} {f : Nat → Int} (h : n ≤ i) : zrw Z j n f j i = Z j i := if_neg (fun q => by omega)
theorem zrw_congr {Z : ZZ} {j n : Nat} {f g : Nat → Int} (h : ∀ i, i < n → f i = g i) : zrw Z j n f = zrw Z j n g := by
  funext j' i
  unfold zrw
  by_cases h2 : j' = j ∧ i < n
  · rw [if_pos h2, if_pos h2, h i h2.2]
  · rw [if_neg h2, if_neg h2]
