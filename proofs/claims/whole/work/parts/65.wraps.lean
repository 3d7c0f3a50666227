section RG2
variable {l : Launch} {D : va_G} {tys : List (ClassId × FieldType)} {cc : ByteArray} {nL : Nat} {Ts : List Cond} {own : String} {R : Room} {X : GX} {J : JT va_W}
variable {x : va_W} {k pc : Nat} {lv : List (Nat × Value)} {rest : List Value}
theorem g_i2lv (hJ : IsG l D tys cc nL Ts own R X J) {v : Int32} (hdg : decode cc pc = .ok (.i2l, 1)) (kk : J x k (pc + 1) lv (.long v.toInt64 :: rest)) : J x k pc lv (.int v :: rest) := by
  obtain ⟨p, e, s, m, args, below, meth, c, Q, A, ⟨hx, hb, hml, hown, hts⟩, hE, hE2, hK, hA, hX, rfl⟩ := hJ
  intro H locs ls hw hl
  exact lv_i2l hx hb hdg rfl (kk H locs ls hw hl)
end RG2
theorem oSet_e (g : Nat → Int) (p0 p1 : Int) : (oSet g p0 p1).1 = 0 ∨ ((oSet g p0 p1).1 = 1) ∧ (oSet g p0 p1).2 = g := by
  unfold oSet ; (repeat' split) <;> simp
theorem oApp_e (g : Nat → Int) (p0 p1 : Int) : (oApp g p0 p1).1 = 0 ∨ ((oApp g p0 p1).1 = 1 ∨ (oApp g p0 p1).1 = 2) ∧ (oApp g p0 p1).2 = g := by
  unfold oApp lim; (repeat' split) <;> simp
theorem oNeg_e (g : Nat → Int) (p0 : Int) : (oNeg g p0).1 = 0 ∨ ((oNeg g p0).1 = 1) ∧ (oNeg g p0).2 = g := by
  unfold oNeg ; (repeat' split) <;> simp
theorem oCopy_e (g : Nat → Int) (p0 p1 : Int) : (oCopy g p0 p1).1 = 0 ∨ ((oCopy g p0 p1).1 = 1) ∧ (oCopy g p0 p1).2 = g := by
  unfold oCopy ; (repeat' split) <;> simp
theorem oAdd_e (g : Nat → Int) (p0 p1 p2 : Int) : (oAdd g p0 p1 p2).1 = 0 ∨ ((oAdd g p0 p1 p2).1 = 1 ∨ (oAdd g p0 p1 p2).1 = 2) ∧ (oAdd g p0 p1 p2).2 = g := by
  unfold oAdd lim; (repeat' split) <;> simp
theorem oSub_e (g : Nat → Int) (p0 p1 p2 : Int) : (oSub g p0 p1 p2).1 = 0 ∨ ((oSub g p0 p1 p2).1 = 1 ∨ (oSub g p0 p1 p2).1 = 2) ∧ (oSub g p0 p1 p2).2 = g := by
  unfold oSub lim; (repeat' split) <;> simp
theorem oMul_e (g : Nat → Int) (p0 p1 p2 : Int) : (oMul g p0 p1 p2).1 = 0 ∨ ((oMul g p0 p1 p2).1 = 1 ∨ (oMul g p0 p1 p2).1 = 2) ∧ (oMul g p0 p1 p2).2 = g := by
  unfold oMul lim; (repeat' split) <;> simp
theorem oDiv_e (g : Nat → Int) (p0 p1 p2 p3 : Int) : (oDiv g p0 p1 p2 p3).1 = 0 ∨ ((oDiv g p0 p1 p2 p3).1 = 1 ∨ (oDiv g p0 p1 p2 p3).1 = 2) ∧ (oDiv g p0 p1 p2 p3).2 = g := by
  unfold oDiv ; (repeat' split) <;> simp
theorem oRoot_e (g : Nat → Int) (p0 p1 : Int) : (oRoot g p0 p1).1 = 0 ∨ ((oRoot g p0 p1).1 = 1 ∨ (oRoot g p0 p1).1 = 2) ∧ (oRoot g p0 p1).2 = g := by
  unfold oRoot ; (repeat' split) <;> simp
theorem oCmp_e (g : Nat → Int) (p0 p1 : Int) : (oCmp g p0 p1).1 = 0 ∨ (oCmp g p0 p1).1 = 1 := by
  unfold oCmp; (repeat' split) <;> simp
theorem oCmpS_e (g : Nat → Int) (p0 p1 : Int) : (oCmpS g p0 p1).1 = 0 ∨ (oCmpS g p0 p1).1 = 1 := by
  unfold oCmpS; (repeat' split) <;> simp
theorem oSign_e (g : Nat → Int) (p0 : Int) : (oSign g p0).1 = 0 ∨ (oSign g p0).1 = 1 := by
  unfold oSign; (repeat' split) <;> simp
theorem oBits_e (g : Nat → Int) (p0 : Int) : (oBits g p0).1 = 0 ∨ (oBits g p0).1 = 1 := by
  unfold oBits; (repeat' split) <;> simp
theorem oWord_e (g : Nat → Int) (p0 p1 : Int) : (oWord g p0 p1).1 = 0 ∨ (oWord g p0 p1).1 = 1 := by
  unfold oWord; (repeat' split) <;> simp
theorem oRes_e (g : Nat → Int) (p0 p1 : Int) : (oRes g p0 p1).1 = 0 ∨ (oRes g p0 p1).1 = 1 ∨ (oRes g p0 p1).1 = 2 := by
  unfold oRes; (repeat' split) <;> simp
section WRP
variable (l : Launch) (D : va_G) (cI cO cL : ClassId) (a : Nat → Nat) (Z : ZZ) (o : Nat) (f : Nat → Int64)
set_option maxRecDepth 20000 in
theorem kL_set (hl0 : l.stackTraces = false) (g : Nat → Int) (hI : XI Z g) (p0 p1 : Int) (h0 : i32 p0) (h1 : i64 p1) : CtG l D (tL cI cO cL) yL_set wsL_set 8 1 145 [.ref (a 0), .int (iZ p0), .long (lZ p1)] (wX cI cO a Z ++ wO cL o f) (fun v w' => ∃ Z' : ZZ, v = some (.int (iZ (oSet g p0 p1).1)) ∧ XI Z' (oSet g p0 p1).2 ∧ w' = wX cI cO a Z' ++ wO cL o f) := by
  refine CtG.ofH (cc := cL_set) (maxL := 5) (hh := [(0, 6, 9, 13)]) rfl (by decide) rfl (Nat.le_of_ble_eq_true rfl) (fun J hJ => ?_)
  refine g_aload_n hJ dL_set_0 rfl ?_
  refine g_iload_n hJ dL_set_1 rfl ?_
  refine g_lload_n hJ dL_set_2 rfl ?_
  refine w_callV (r2 := wO cL o f) hJ (kX0_set l D cI cO a Z hl0 g hI p0 p1 h0 h1) rfl gL_set_X0_set rfl hdX0_set rfl ⟨Nat.le_of_ble_eq_true rfl, Nat.le_of_ble_eq_true rfl⟩ (Nat.le_of_ble_eq_true rfl) (Nat.le_of_ble_eq_true rfl) rfl rfl [0, 1] rfl dL_set_3 (fun E Z3 h3 => ?_) (fun r3 Z3 h3 => ?_)
  · obtain ⟨hX, ⟨ho, rfl⟩ | ⟨ho, rfl⟩⟩ := h3
    · refine ⟨9, catch1 (by decide) (by decide) (by decide +kernel) (by decide +kernel), fun q => ?_⟩
      refine g_astore hJ (by decide) dL_set_9 ?_
      refine g_iconst hJ dL_set_11 ?_
      exact w_iret hJ (Nat.le_of_ble_eq_true rfl) (⟨Z3, by rw [ho], by rcases oSet_e g p0 p1 with c | c; (exact absurd (ho.symm.trans c) (by decide)); (rw [c.2]; exact hX), rfl⟩) dL_set_12
    · exact (by rcases oSet_e g p0 p1 with c | c; (exact absurd (ho.symm.trans c) (by decide)); (exact absurd (ho.symm.trans c.1) (by decide)))
  · obtain ⟨rfl, ho, hX⟩ := h3
    refine g_goto (tgt := 13) hJ (by decide) dL_set_6 ?_
    refine g_iconst hJ dL_set_13 ?_
    exact w_iret hJ (Nat.le_of_ble_eq_true rfl) (⟨Z3, by rw [ho], hX, rfl⟩) dL_set_14
set_option maxRecDepth 20000 in
theorem kL_append (hl0 : l.stackTraces = false) (g : Nat → Int) (hI : XI Z g) (p0 p1 : Int) (h0 : i32 p0) (h1 : i32 p1) : CtG l D (tL cI cO cL) yL_append wsL_append 8 2 143 [.ref (a 0), .int (iZ p0), .int (iZ p1)] (wX cI cO a Z ++ wO cL o f) (fun v w' => ∃ Z' : ZZ, v = some (.int (iZ (oApp g p0 p1).1)) ∧ XI Z' (oApp g p0 p1).2 ∧ w' = wX cI cO a Z' ++ wO cL o f) := by
  refine CtG.ofH (cc := cL_append) (maxL := 4) (hh := [(0, 6, 9, 13), (0, 6, 12, 19)]) rfl (by decide) rfl (Nat.le_of_ble_eq_true rfl) (fun J hJ => ?_)
  refine g_aload_n hJ dL_append_0 rfl ?_
  refine g_iload_n hJ dL_append_1 rfl ?_
  refine g_iload_n hJ dL_append_2 rfl ?_
  refine w_callV (r2 := wO cL o f) hJ (kX0_append l D cI cO a Z hl0 g hI p0 p1 h0 h1) rfl gL_append_X0_append rfl hdX0_append rfl ⟨Nat.le_of_ble_eq_true rfl, Nat.le_of_ble_eq_true rfl⟩ (Nat.le_of_ble_eq_true rfl) (Nat.le_of_ble_eq_true rfl) rfl rfl [0, 1] rfl dL_append_3 (fun E Z3 h3 => ?_) (fun r3 Z3 h3 => ?_)
  · obtain ⟨hX, ⟨ho, rfl⟩ | ⟨ho, rfl⟩⟩ := h3
    · refine ⟨9, catch1 (by decide) (by decide) (by decide +kernel) (by decide +kernel), fun q => ?_⟩
      refine g_astore_n hJ (by decide) dL_append_9 ?_
      refine g_iconst hJ dL_append_10 ?_
      exact w_iret hJ (Nat.le_of_ble_eq_true rfl) (⟨Z3, by rw [ho], by rcases oApp_e g p0 p1 with c | c; (exact absurd (ho.symm.trans c) (by decide)); (rw [c.2]; exact hX), rfl⟩) dL_append_11
    · refine ⟨12, catch2 (by decide) (by decide +kernel) (Or.inl rfl) (by decide) (by decide) (by decide +kernel) (by decide +kernel), fun q => ?_⟩
      refine g_astore_n hJ (by decide) dL_append_12 ?_
      refine g_iconst hJ dL_append_13 ?_
      exact w_iret hJ (Nat.le_of_ble_eq_true rfl) (⟨Z3, by rw [ho], by rcases oApp_e g p0 p1 with c | c; (exact absurd (ho.symm.trans c) (by decide)); (rw [c.2]; exact hX), rfl⟩) dL_append_14
  · obtain ⟨rfl, ho, hX⟩ := h3
    refine g_goto (tgt := 15) hJ (by decide) dL_append_6 ?_
    refine g_iconst hJ dL_append_15 ?_
    exact w_iret hJ (Nat.le_of_ble_eq_true rfl) (⟨Z3, by rw [ho], hX, rfl⟩) dL_append_16
set_option maxRecDepth 20000 in
theorem kL_negate (hl0 : l.stackTraces = false) (g : Nat → Int) (hI : XI Z g) (p0 : Int) (h0 : i32 p0) : CtG l D (tL cI cO cL) yL_negate wsL_negate 8 1 141 [.ref (a 0), .int (iZ p0)] (wX cI cO a Z ++ wO cL o f) (fun v w' => ∃ Z' : ZZ, v = some (.int (iZ (oNeg g p0).1)) ∧ XI Z' (oNeg g p0).2 ∧ w' = wX cI cO a Z' ++ wO cL o f) := by
  refine CtG.ofH (cc := cL_negate) (maxL := 3) (hh := [(0, 5, 8, 13)]) rfl (by decide) rfl (Nat.le_of_ble_eq_true rfl) (fun J hJ => ?_)
  refine g_aload_n hJ dL_negate_0 rfl ?_
  refine g_iload_n hJ dL_negate_1 rfl ?_
  refine w_callV (r2 := wO cL o f) hJ (kX0_negate l D cI cO a Z hl0 g hI p0 h0) rfl gL_negate_X0_negate rfl hdX0_negate rfl ⟨Nat.le_of_ble_eq_true rfl, Nat.le_of_ble_eq_true rfl⟩ (Nat.le_of_ble_eq_true rfl) (Nat.le_of_ble_eq_true rfl) rfl rfl [0, 1] rfl dL_negate_2 (fun E Z3 h3 => ?_) (fun r3 Z3 h3 => ?_)
  · obtain ⟨hX, ⟨ho, rfl⟩ | ⟨ho, rfl⟩⟩ := h3
    · refine ⟨8, catch1 (by decide) (by decide) (by decide +kernel) (by decide +kernel), fun q => ?_⟩
      refine g_astore_n hJ (by decide) dL_negate_8 ?_
      refine g_iconst hJ dL_negate_9 ?_
      exact w_iret hJ (Nat.le_of_ble_eq_true rfl) (⟨Z3, by rw [ho], by rcases oNeg_e g p0 with c | c; (exact absurd (ho.symm.trans c) (by decide)); (rw [c.2]; exact hX), rfl⟩) dL_negate_10
    · exact (by rcases oNeg_e g p0 with c | c; (exact absurd (ho.symm.trans c) (by decide)); (exact absurd (ho.symm.trans c.1) (by decide)))
  · obtain ⟨rfl, ho, hX⟩ := h3
    refine g_goto (tgt := 11) hJ (by decide) dL_negate_5 ?_
    refine g_iconst hJ dL_negate_11 ?_
    exact w_iret hJ (Nat.le_of_ble_eq_true rfl) (⟨Z3, by rw [ho], hX, rfl⟩) dL_negate_12
set_option maxRecDepth 20000 in
theorem kL_copy (hl0 : l.stackTraces = false) (g : Nat → Int) (hI : XI Z g) (p0 p1 : Int) (h0 : i32 p0) (h1 : i32 p1) : CtG l D (tL cI cO cL) yL_copy wsL_copy 8 2 142 [.ref (a 0), .int (iZ p0), .int (iZ p1)] (wX cI cO a Z ++ wO cL o f) (fun v w' => ∃ Z' : ZZ, v = some (.int (iZ (oCopy g p0 p1).1)) ∧ XI Z' (oCopy g p0 p1).2 ∧ w' = wX cI cO a Z' ++ wO cL o f) := by
  refine CtG.ofH (cc := cL_copy) (maxL := 4) (hh := [(0, 6, 9, 13)]) rfl (by decide) rfl (Nat.le_of_ble_eq_true rfl) (fun J hJ => ?_)
  refine g_aload_n hJ dL_copy_0 rfl ?_
  refine g_iload_n hJ dL_copy_1 rfl ?_
  refine g_iload_n hJ dL_copy_2 rfl ?_
  refine w_callV (r2 := wO cL o f) hJ (kX0_copy l D cI cO a Z hl0 g hI p0 p1 h0 h1) rfl gL_copy_X0_copy rfl hdX0_copy rfl ⟨Nat.le_of_ble_eq_true rfl, Nat.le_of_ble_eq_true rfl⟩ (Nat.le_of_ble_eq_true rfl) (Nat.le_of_ble_eq_true rfl) rfl rfl [0, 1] rfl dL_copy_3 (fun E Z3 h3 => ?_) (fun r3 Z3 h3 => ?_)
  · obtain ⟨hX, ⟨ho, rfl⟩ | ⟨ho, rfl⟩⟩ := h3
    · refine ⟨9, catch1 (by decide) (by decide) (by decide +kernel) (by decide +kernel), fun q => ?_⟩
      refine g_astore_n hJ (by decide) dL_copy_9 ?_
      refine g_iconst hJ dL_copy_10 ?_
      exact w_iret hJ (Nat.le_of_ble_eq_true rfl) (⟨Z3, by rw [ho], by rcases oCopy_e g p0 p1 with c | c; (exact absurd (ho.symm.trans c) (by decide)); (rw [c.2]; exact hX), rfl⟩) dL_copy_11
    · exact (by rcases oCopy_e g p0 p1 with c | c; (exact absurd (ho.symm.trans c) (by decide)); (exact absurd (ho.symm.trans c.1) (by decide)))
  · obtain ⟨rfl, ho, hX⟩ := h3
    refine g_goto (tgt := 12) hJ (by decide) dL_copy_6 ?_
    refine g_iconst hJ dL_copy_12 ?_
    exact w_iret hJ (Nat.le_of_ble_eq_true rfl) (⟨Z3, by rw [ho], hX, rfl⟩) dL_copy_13
set_option maxRecDepth 20000 in
theorem kL_add (hl0 : l.stackTraces = false) (g : Nat → Int) (hI : XI Z g) (p0 p1 p2 : Int) (h0 : i32 p0) (h1 : i32 p1) (h2 : i32 p2) : CtG l D (tL cI cO cL) yL_add wsL_add 9 4 168 [.ref (a 0), .int (iZ p0), .int (iZ p1), .int (iZ p2)] (wX cI cO a Z ++ wO cL o f) (fun v w' => ∃ Z' : ZZ, v = some (.int (iZ (oAdd g p0 p1 p2).1)) ∧ XI Z' (oAdd g p0 p1 p2).2 ∧ w' = wX cI cO a Z' ++ wO cL o f) := by
  refine CtG.ofH (cc := cL_add) (maxL := 5) (hh := [(0, 7, 10, 13), (0, 7, 14, 19)]) rfl (by decide) rfl (Nat.le_of_ble_eq_true rfl) (fun J hJ => ?_)
  refine g_aload_n hJ dL_add_0 rfl ?_
  refine g_iload_n hJ dL_add_1 rfl ?_
  refine g_iload_n hJ dL_add_2 rfl ?_
  refine g_iload_n hJ dL_add_3 rfl ?_
  refine w_callV (r2 := wO cL o f) hJ (kX0_add l D cI cO a Z hl0 g hI p0 p1 p2 h0 h1 h2) rfl gL_add_X0_add rfl hdX0_add rfl ⟨Nat.le_of_ble_eq_true rfl, Nat.le_of_ble_eq_true rfl⟩ (Nat.le_of_ble_eq_true rfl) (Nat.le_of_ble_eq_true rfl) rfl rfl [0, 1] rfl dL_add_4 (fun E Z3 h3 => ?_) (fun r3 Z3 h3 => ?_)
  · obtain ⟨hX, ⟨ho, rfl⟩ | ⟨ho, rfl⟩⟩ := h3
    · refine ⟨10, catch1 (by decide) (by decide) (by decide +kernel) (by decide +kernel), fun q => ?_⟩
      refine g_astore hJ (by decide) dL_add_10 ?_
      refine g_iconst hJ dL_add_12 ?_
      exact w_iret hJ (Nat.le_of_ble_eq_true rfl) (⟨Z3, by rw [ho], by rcases oAdd_e g p0 p1 p2 with c | c; (exact absurd (ho.symm.trans c) (by decide)); (rw [c.2]; exact hX), rfl⟩) dL_add_13
    · refine ⟨14, catch2 (by decide) (by decide +kernel) (Or.inl rfl) (by decide) (by decide) (by decide +kernel) (by decide +kernel), fun q => ?_⟩
      refine g_astore hJ (by decide) dL_add_14 ?_
      refine g_iconst hJ dL_add_16 ?_
      exact w_iret hJ (Nat.le_of_ble_eq_true rfl) (⟨Z3, by rw [ho], by rcases oAdd_e g p0 p1 p2 with c | c; (exact absurd (ho.symm.trans c) (by decide)); (rw [c.2]; exact hX), rfl⟩) dL_add_17
  · obtain ⟨rfl, ho, hX⟩ := h3
    refine g_goto (tgt := 18) hJ (by decide) dL_add_7 ?_
    refine g_iconst hJ dL_add_18 ?_
    exact w_iret hJ (Nat.le_of_ble_eq_true rfl) (⟨Z3, by rw [ho], hX, rfl⟩) dL_add_19
set_option maxRecDepth 20000 in
theorem kL_subtract (hl0 : l.stackTraces = false) (g : Nat → Int) (hI : XI Z g) (p0 p1 p2 : Int) (h0 : i32 p0) (h1 : i32 p1) (h2 : i32 p2) : CtG l D (tL cI cO cL) yL_subtract wsL_subtract 9 4 168 [.ref (a 0), .int (iZ p0), .int (iZ p1), .int (iZ p2)] (wX cI cO a Z ++ wO cL o f) (fun v w' => ∃ Z' : ZZ, v = some (.int (iZ (oSub g p0 p1 p2).1)) ∧ XI Z' (oSub g p0 p1 p2).2 ∧ w' = wX cI cO a Z' ++ wO cL o f) := by
  refine CtG.ofH (cc := cL_subtract) (maxL := 5) (hh := [(0, 7, 10, 13), (0, 7, 14, 19)]) rfl (by decide) rfl (Nat.le_of_ble_eq_true rfl) (fun J hJ => ?_)
  refine g_aload_n hJ dL_subtract_0 rfl ?_
  refine g_iload_n hJ dL_subtract_1 rfl ?_
  refine g_iload_n hJ dL_subtract_2 rfl ?_
  refine g_iload_n hJ dL_subtract_3 rfl ?_
  refine w_callV (r2 := wO cL o f) hJ (kX0_subtract l D cI cO a Z hl0 g hI p0 p1 p2 h0 h1 h2) rfl gL_subtract_X0_subtract rfl hdX0_subtract rfl ⟨Nat.le_of_ble_eq_true rfl, Nat.le_of_ble_eq_true rfl⟩ (Nat.le_of_ble_eq_true rfl) (Nat.le_of_ble_eq_true rfl) rfl rfl [0, 1] rfl dL_subtract_4 (fun E Z3 h3 => ?_) (fun r3 Z3 h3 => ?_)
  · obtain ⟨hX, ⟨ho, rfl⟩ | ⟨ho, rfl⟩⟩ := h3
    · refine ⟨10, catch1 (by decide) (by decide) (by decide +kernel) (by decide +kernel), fun q => ?_⟩
      refine g_astore hJ (by decide) dL_subtract_10 ?_
      refine g_iconst hJ dL_subtract_12 ?_
      exact w_iret hJ (Nat.le_of_ble_eq_true rfl) (⟨Z3, by rw [ho], by rcases oSub_e g p0 p1 p2 with c | c; (exact absurd (ho.symm.trans c) (by decide)); (rw [c.2]; exact hX), rfl⟩) dL_subtract_13
    · refine ⟨14, catch2 (by decide) (by decide +kernel) (Or.inl rfl) (by decide) (by decide) (by decide +kernel) (by decide +kernel), fun q => ?_⟩
      refine g_astore hJ (by decide) dL_subtract_14 ?_
      refine g_iconst hJ dL_subtract_16 ?_
      exact w_iret hJ (Nat.le_of_ble_eq_true rfl) (⟨Z3, by rw [ho], by rcases oSub_e g p0 p1 p2 with c | c; (exact absurd (ho.symm.trans c) (by decide)); (rw [c.2]; exact hX), rfl⟩) dL_subtract_17
  · obtain ⟨rfl, ho, hX⟩ := h3
    refine g_goto (tgt := 18) hJ (by decide) dL_subtract_7 ?_
    refine g_iconst hJ dL_subtract_18 ?_
    exact w_iret hJ (Nat.le_of_ble_eq_true rfl) (⟨Z3, by rw [ho], hX, rfl⟩) dL_subtract_19
set_option maxRecDepth 20000 in
theorem kL_multiply (hl0 : l.stackTraces = false) (g : Nat → Int) (hI : XI Z g) (p0 p1 p2 : Int) (h0 : i32 p0) (h1 : i32 p1) (h2 : i32 p2) : CtG l D (tL cI cO cL) yL_multiply wsL_multiply 8 5 143 [.ref (a 0), .int (iZ p0), .int (iZ p1), .int (iZ p2)] (wX cI cO a Z ++ wO cL o f) (fun v w' => ∃ Z' : ZZ, v = some (.int (iZ (oMul g p0 p1 p2).1)) ∧ XI Z' (oMul g p0 p1 p2).2 ∧ w' = wX cI cO a Z' ++ wO cL o f) := by
  refine CtG.ofH (cc := cL_multiply) (maxL := 5) (hh := [(0, 7, 10, 13), (0, 7, 14, 19)]) rfl (by decide) rfl (Nat.le_of_ble_eq_true rfl) (fun J hJ => ?_)
  refine g_aload_n hJ dL_multiply_0 rfl ?_
  refine g_iload_n hJ dL_multiply_1 rfl ?_
  refine g_iload_n hJ dL_multiply_2 rfl ?_
  refine g_iload_n hJ dL_multiply_3 rfl ?_
  refine w_callV (r2 := wO cL o f) hJ (kX0_multiply l D cI cO a Z hl0 g hI p0 p1 p2 h0 h1 h2) rfl gL_multiply_X0_multiply rfl hdX0_multiply rfl ⟨Nat.le_of_ble_eq_true rfl, Nat.le_of_ble_eq_true rfl⟩ (Nat.le_of_ble_eq_true rfl) (Nat.le_of_ble_eq_true rfl) rfl rfl [0, 1] rfl dL_multiply_4 (fun E Z3 h3 => ?_) (fun r3 Z3 h3 => ?_)
  · obtain ⟨hX, ⟨ho, rfl⟩ | ⟨ho, rfl⟩⟩ := h3
    · refine ⟨10, catch1 (by decide) (by decide) (by decide +kernel) (by decide +kernel), fun q => ?_⟩
      refine g_astore hJ (by decide) dL_multiply_10 ?_
      refine g_iconst hJ dL_multiply_12 ?_
      exact w_iret hJ (Nat.le_of_ble_eq_true rfl) (⟨Z3, by rw [ho], by rcases oMul_e g p0 p1 p2 with c | c; (exact absurd (ho.symm.trans c) (by decide)); (rw [c.2]; exact hX), rfl⟩) dL_multiply_13
    · refine ⟨14, catch2 (by decide) (by decide +kernel) (Or.inl rfl) (by decide) (by decide) (by decide +kernel) (by decide +kernel), fun q => ?_⟩
      refine g_astore hJ (by decide) dL_multiply_14 ?_
      refine g_iconst hJ dL_multiply_16 ?_
      exact w_iret hJ (Nat.le_of_ble_eq_true rfl) (⟨Z3, by rw [ho], by rcases oMul_e g p0 p1 p2 with c | c; (exact absurd (ho.symm.trans c) (by decide)); (rw [c.2]; exact hX), rfl⟩) dL_multiply_17
  · obtain ⟨rfl, ho, hX⟩ := h3
    refine g_goto (tgt := 18) hJ (by decide) dL_multiply_7 ?_
    refine g_iconst hJ dL_multiply_18 ?_
    exact w_iret hJ (Nat.le_of_ble_eq_true rfl) (⟨Z3, by rw [ho], hX, rfl⟩) dL_multiply_19
set_option maxRecDepth 20000 in
theorem kL_divide (hl0 : l.stackTraces = false) (g : Nat → Int) (hI : XI Z g) (p0 p1 p2 p3 : Int) (h0 : i32 p0) (h1 : i32 p1) (h2 : i32 p2) (h3 : i32 p3) : CtG l D (tL cI cO cL) yL_divide wsL_divide 8 5 148 [.ref (a 0), .int (iZ p0), .int (iZ p1), .int (iZ p2), .int (iZ p3)] (wX cI cO a Z ++ wO cL o f) (fun v w' => ∃ Z' : ZZ, v = some (.int (iZ (oDiv g p0 p1 p2 p3).1)) ∧ XI Z' (oDiv g p0 p1 p2 p3).2 ∧ w' = wX cI cO a Z' ++ wO cL o f) := by
  refine CtG.ofH (cc := cL_divide) (maxL := 6) (hh := [(0, 9, 12, 13), (0, 9, 16, 42)]) rfl (by decide) rfl (Nat.le_of_ble_eq_true rfl) (fun J hJ => ?_)
  refine g_aload_n hJ dL_divide_0 rfl ?_
  refine g_iload_n hJ dL_divide_1 rfl ?_
  refine g_iload_n hJ dL_divide_2 rfl ?_
  refine g_iload_n hJ dL_divide_3 rfl ?_
  refine g_iload hJ dL_divide_4 rfl ?_
  refine w_callV (r2 := wO cL o f) hJ (kX0_divide l D cI cO a Z hl0 g hI p0 p1 p2 p3 h0 h1 h2 h3) rfl gL_divide_X0_divide rfl hdX0_divide rfl ⟨Nat.le_of_ble_eq_true rfl, Nat.le_of_ble_eq_true rfl⟩ (Nat.le_of_ble_eq_true rfl) (Nat.le_of_ble_eq_true rfl) rfl rfl [0, 1] rfl dL_divide_6 (fun E Z3 h3 => ?_) (fun r3 Z3 h3 => ?_)
  · obtain ⟨hX, ⟨ho, rfl⟩ | ⟨ho, rfl⟩⟩ := h3
    · refine ⟨12, catch1 (by decide) (by decide) (by decide +kernel) (by decide +kernel), fun q => ?_⟩
      refine g_astore hJ (by decide) dL_divide_12 ?_
      refine g_iconst hJ dL_divide_14 ?_
      exact w_iret hJ (Nat.le_of_ble_eq_true rfl) (⟨Z3, by rw [ho], by rcases oDiv_e g p0 p1 p2 p3 with c | c; (exact absurd (ho.symm.trans c) (by decide)); (rw [c.2]; exact hX), rfl⟩) dL_divide_15
    · refine ⟨16, catch2 (by decide) (by decide +kernel) (Or.inr rfl) (by decide) (by decide) (by decide +kernel) (by decide +kernel), fun q => ?_⟩
      refine g_astore hJ (by decide) dL_divide_16 ?_
      refine g_iconst hJ dL_divide_18 ?_
      exact w_iret hJ (Nat.le_of_ble_eq_true rfl) (⟨Z3, by rw [ho], by rcases oDiv_e g p0 p1 p2 p3 with c | c; (exact absurd (ho.symm.trans c) (by decide)); (rw [c.2]; exact hX), rfl⟩) dL_divide_19
  · obtain ⟨rfl, ho, hX⟩ := h3
    refine g_goto (tgt := 20) hJ (by decide) dL_divide_9 ?_
    refine g_iconst hJ dL_divide_20 ?_
    exact w_iret hJ (Nat.le_of_ble_eq_true rfl) (⟨Z3, by rw [ho], hX, rfl⟩) dL_divide_21
set_option maxRecDepth 20000 in
theorem kL_root (hl0 : l.stackTraces = false) (g : Nat → Int) (hI : XI Z g) (p0 p1 : Int) (h0 : i32 p0) (h1 : i32 p1) : CtG l D (tL cI cO cL) yL_root wsL_root 8 3 142 [.ref (a 0), .int (iZ p0), .int (iZ p1)] (wX cI cO a Z ++ wO cL o f) (fun v w' => ∃ Z' : ZZ, v = some (.int (iZ (oRoot g p0 p1).1)) ∧ XI Z' (oRoot g p0 p1).2 ∧ w' = wX cI cO a Z' ++ wO cL o f) := by
  refine CtG.ofH (cc := cL_root) (maxL := 4) (hh := [(0, 6, 9, 13), (0, 6, 12, 42)]) rfl (by decide) rfl (Nat.le_of_ble_eq_true rfl) (fun J hJ => ?_)
  refine g_aload_n hJ dL_root_0 rfl ?_
  refine g_iload_n hJ dL_root_1 rfl ?_
  refine g_iload_n hJ dL_root_2 rfl ?_
  refine w_callV (r2 := wO cL o f) hJ (kX0_root l D cI cO a Z hl0 g hI p0 p1 h0 h1) rfl gL_root_X0_root rfl hdX0_root rfl ⟨Nat.le_of_ble_eq_true rfl, Nat.le_of_ble_eq_true rfl⟩ (Nat.le_of_ble_eq_true rfl) (Nat.le_of_ble_eq_true rfl) rfl rfl [0, 1] rfl dL_root_3 (fun E Z3 h3 => ?_) (fun r3 Z3 h3 => ?_)
  · obtain ⟨hX, ⟨ho, rfl⟩ | ⟨ho, rfl⟩⟩ := h3
    · refine ⟨9, catch1 (by decide) (by decide) (by decide +kernel) (by decide +kernel), fun q => ?_⟩
      refine g_astore_n hJ (by decide) dL_root_9 ?_
      refine g_iconst hJ dL_root_10 ?_
      exact w_iret hJ (Nat.le_of_ble_eq_true rfl) (⟨Z3, by rw [ho], by rcases oRoot_e g p0 p1 with c | c; (exact absurd (ho.symm.trans c) (by decide)); (rw [c.2]; exact hX), rfl⟩) dL_root_11
    · refine ⟨12, catch2 (by decide) (by decide +kernel) (Or.inr rfl) (by decide) (by decide) (by decide +kernel) (by decide +kernel), fun q => ?_⟩
      refine g_astore_n hJ (by decide) dL_root_12 ?_
      refine g_iconst hJ dL_root_13 ?_
      exact w_iret hJ (Nat.le_of_ble_eq_true rfl) (⟨Z3, by rw [ho], by rcases oRoot_e g p0 p1 with c | c; (exact absurd (ho.symm.trans c) (by decide)); (rw [c.2]; exact hX), rfl⟩) dL_root_14
  · obtain ⟨rfl, ho, hX⟩ := h3
    refine g_goto (tgt := 15) hJ (by decide) dL_root_6 ?_
    refine g_iconst hJ dL_root_15 ?_
    exact w_iret hJ (Nat.le_of_ble_eq_true rfl) (⟨Z3, by rw [ho], hX, rfl⟩) dL_root_16
set_option maxRecDepth 20000 in
theorem kL_compare (hl0 : l.stackTraces = false) (g : Nat → Int) (hI : XI Z g) (p0 p1 : Int) (h0 : i32 p0) (h1 : i32 p1) : CtG l D (tL cI cO cL) yL_compare wsL_compare 8 2 142 [.ref (a 0), .int (iZ p0), .int (iZ p1), .ref o] (wX cI cO a Z ++ wO cL o f) (fun v w' => ∃ (Z' : ZZ) (f' : Nat → Int64), v = some (.int (iZ (oCmp g p0 p1).1)) ∧ XI Z' g ∧ ((oCmp g p0 p1).1 = 0 → f' 0 = (iZ (oCmp g p0 p1).2).toInt64) ∧ w' = wX cI cO a Z' ++ wO cL o f') := by
  refine CtG.ofH (cc := cL_compare) (maxL := 5) (hh := [(0, 10, 13, 13)]) rfl (by decide) rfl (Nat.le_of_ble_eq_true rfl) (fun J hJ => ?_)
  refine g_aload_n hJ dL_compare_0 rfl ?_
  refine g_iconst hJ dL_compare_1 ?_
  refine g_aload_n hJ dL_compare_2 rfl ?_
  refine g_iload_n hJ dL_compare_3 rfl ?_
  refine g_iload_n hJ dL_compare_4 rfl ?_
  refine w_callV (r2 := wO cL o f) hJ (kX0_compare l D cI cO a Z hl0 g hI p0 p1 h0 h1) rfl gL_compare_X0_compare rfl hdX0_compare rfl ⟨Nat.le_of_ble_eq_true rfl, Nat.le_of_ble_eq_true rfl⟩ (Nat.le_of_ble_eq_true rfl) (Nat.le_of_ble_eq_true rfl) rfl rfl [0, 1] rfl dL_compare_5 (fun E Z3 h3 => ?_) (fun r3 Z3 h3 => ?_)
  · obtain ⟨hX, ⟨ho, rfl⟩ | ⟨ho, rfl⟩⟩ := h3
    · refine ⟨13, catch1 (by decide) (by decide) (by decide +kernel) (by decide +kernel), fun q => ?_⟩
      refine g_astore hJ (by decide) dL_compare_13 ?_
      refine g_iconst hJ dL_compare_15 ?_
      exact w_iret hJ (Nat.le_of_ble_eq_true rfl) (⟨Z3, f, by rw [ho], hX, fun c => absurd (ho.symm.trans c) (by decide), rfl⟩) dL_compare_16
    · exact (by rcases oCmp_e g p0 p1 with c | c <;> exact absurd (ho.symm.trans c) (by decide))
  · obtain ⟨rfl, ho, hX⟩ := h3
    refine g_i2lv hJ dL_compare_8 ?_
    refine g_lastore hJ dL_compare_9 ?_
    refine g_goto (tgt := 17) hJ (by decide) dL_compare_10 ?_
    refine g_iconst hJ dL_compare_17 ?_
    exact w_iret hJ (Nat.le_of_ble_eq_true rfl) (⟨Z3, _, by rw [ho], hX, fun _ => rfl, rfl⟩) dL_compare_18
set_option maxRecDepth 20000 in
theorem kL_compareSizes (hl0 : l.stackTraces = false) (g : Nat → Int) (hI : XI Z g) (p0 p1 : Int) (h0 : i32 p0) (h1 : i32 p1) : CtG l D (tL cI cO cL) yL_compareSizes wsL_compareSizes 8 2 142 [.ref (a 0), .int (iZ p0), .int (iZ p1), .ref o] (wX cI cO a Z ++ wO cL o f) (fun v w' => ∃ (Z' : ZZ) (f' : Nat → Int64), v = some (.int (iZ (oCmpS g p0 p1).1)) ∧ XI Z' g ∧ ((oCmpS g p0 p1).1 = 0 → f' 0 = (iZ (oCmpS g p0 p1).2).toInt64) ∧ w' = wX cI cO a Z' ++ wO cL o f') := by
  refine CtG.ofH (cc := cL_compareSizes) (maxL := 5) (hh := [(0, 10, 13, 13)]) rfl (by decide) rfl (Nat.le_of_ble_eq_true rfl) (fun J hJ => ?_)
  refine g_aload_n hJ dL_compareSizes_0 rfl ?_
  refine g_iconst hJ dL_compareSizes_1 ?_
  refine g_aload_n hJ dL_compareSizes_2 rfl ?_
  refine g_iload_n hJ dL_compareSizes_3 rfl ?_
  refine g_iload_n hJ dL_compareSizes_4 rfl ?_
  refine w_callV (r2 := wO cL o f) hJ (kX0_compareSizes l D cI cO a Z hl0 g hI p0 p1 h0 h1) rfl gL_compareSizes_X0_compareSizes rfl hdX0_compareSizes rfl ⟨Nat.le_of_ble_eq_true rfl, Nat.le_of_ble_eq_true rfl⟩ (Nat.le_of_ble_eq_true rfl) (Nat.le_of_ble_eq_true rfl) rfl rfl [0, 1] rfl dL_compareSizes_5 (fun E Z3 h3 => ?_) (fun r3 Z3 h3 => ?_)
  · obtain ⟨hX, ⟨ho, rfl⟩ | ⟨ho, rfl⟩⟩ := h3
    · refine ⟨13, catch1 (by decide) (by decide) (by decide +kernel) (by decide +kernel), fun q => ?_⟩
      refine g_astore hJ (by decide) dL_compareSizes_13 ?_
      refine g_iconst hJ dL_compareSizes_15 ?_
      exact w_iret hJ (Nat.le_of_ble_eq_true rfl) (⟨Z3, f, by rw [ho], hX, fun c => absurd (ho.symm.trans c) (by decide), rfl⟩) dL_compareSizes_16
    · exact (by rcases oCmpS_e g p0 p1 with c | c <;> exact absurd (ho.symm.trans c) (by decide))
  · obtain ⟨rfl, ho, hX⟩ := h3
    refine g_i2lv hJ dL_compareSizes_8 ?_
    refine g_lastore hJ dL_compareSizes_9 ?_
    refine g_goto (tgt := 17) hJ (by decide) dL_compareSizes_10 ?_
    refine g_iconst hJ dL_compareSizes_17 ?_
    exact w_iret hJ (Nat.le_of_ble_eq_true rfl) (⟨Z3, _, by rw [ho], hX, fun _ => rfl, rfl⟩) dL_compareSizes_18
set_option maxRecDepth 20000 in
theorem kL_sign (hl0 : l.stackTraces = false) (g : Nat → Int) (hI : XI Z g) (p0 : Int) (h0 : i32 p0) : CtG l D (tL cI cO cL) yL_sign wsL_sign 8 1 141 [.ref (a 0), .int (iZ p0), .ref o] (wX cI cO a Z ++ wO cL o f) (fun v w' => ∃ (Z' : ZZ) (f' : Nat → Int64), v = some (.int (iZ (oSign g p0).1)) ∧ XI Z' g ∧ ((oSign g p0).1 = 0 → f' 0 = (iZ (oSign g p0).2).toInt64) ∧ w' = wX cI cO a Z' ++ wO cL o f') := by
  refine CtG.ofH (cc := cL_sign) (maxL := 4) (hh := [(0, 9, 12, 13)]) rfl (by decide) rfl (Nat.le_of_ble_eq_true rfl) (fun J hJ => ?_)
  refine g_aload_n hJ dL_sign_0 rfl ?_
  refine g_iconst hJ dL_sign_1 ?_
  refine g_aload_n hJ dL_sign_2 rfl ?_
  refine g_iload_n hJ dL_sign_3 rfl ?_
  refine w_callV (r2 := wO cL o f) hJ (kX0_sign l D cI cO a Z hl0 g hI p0 h0) rfl gL_sign_X0_sign rfl hdX0_sign rfl ⟨Nat.le_of_ble_eq_true rfl, Nat.le_of_ble_eq_true rfl⟩ (Nat.le_of_ble_eq_true rfl) (Nat.le_of_ble_eq_true rfl) rfl rfl [0, 1] rfl dL_sign_4 (fun E Z3 h3 => ?_) (fun r3 Z3 h3 => ?_)
  · obtain ⟨hX, ⟨ho, rfl⟩ | ⟨ho, rfl⟩⟩ := h3
    · refine ⟨12, catch1 (by decide) (by decide) (by decide +kernel) (by decide +kernel), fun q => ?_⟩
      refine g_astore_n hJ (by decide) dL_sign_12 ?_
      refine g_iconst hJ dL_sign_13 ?_
      exact w_iret hJ (Nat.le_of_ble_eq_true rfl) (⟨Z3, f, by rw [ho], hX, fun c => absurd (ho.symm.trans c) (by decide), rfl⟩) dL_sign_14
    · exact (by rcases oSign_e g p0 with c | c <;> exact absurd (ho.symm.trans c) (by decide))
  · obtain ⟨rfl, ho, hX⟩ := h3
    refine g_i2lv hJ dL_sign_7 ?_
    refine g_lastore hJ dL_sign_8 ?_
    refine g_goto (tgt := 15) hJ (by decide) dL_sign_9 ?_
    refine g_iconst hJ dL_sign_15 ?_
    exact w_iret hJ (Nat.le_of_ble_eq_true rfl) (⟨Z3, _, by rw [ho], hX, fun _ => rfl, rfl⟩) dL_sign_16
set_option maxRecDepth 20000 in
theorem kL_bits (hl0 : l.stackTraces = false) (g : Nat → Int) (hI : XI Z g) (p0 : Int) (h0 : i32 p0) : CtG l D (tL cI cO cL) yL_bits wsL_bits 8 1 141 [.ref (a 0), .int (iZ p0), .ref o] (wX cI cO a Z ++ wO cL o f) (fun v w' => ∃ (Z' : ZZ) (f' : Nat → Int64), v = some (.int (iZ (oBits g p0).1)) ∧ XI Z' g ∧ ((oBits g p0).1 = 0 → f' 0 = (iZ (oBits g p0).2).toInt64) ∧ w' = wX cI cO a Z' ++ wO cL o f') := by
  refine CtG.ofH (cc := cL_bits) (maxL := 4) (hh := [(0, 9, 12, 13)]) rfl (by decide) rfl (Nat.le_of_ble_eq_true rfl) (fun J hJ => ?_)
  refine g_aload_n hJ dL_bits_0 rfl ?_
  refine g_iconst hJ dL_bits_1 ?_
  refine g_aload_n hJ dL_bits_2 rfl ?_
  refine g_iload_n hJ dL_bits_3 rfl ?_
  refine w_callV (r2 := wO cL o f) hJ (kX0_bits l D cI cO a Z hl0 g hI p0 h0) rfl gL_bits_X0_bits rfl hdX0_bits rfl ⟨Nat.le_of_ble_eq_true rfl, Nat.le_of_ble_eq_true rfl⟩ (Nat.le_of_ble_eq_true rfl) (Nat.le_of_ble_eq_true rfl) rfl rfl [0, 1] rfl dL_bits_4 (fun E Z3 h3 => ?_) (fun r3 Z3 h3 => ?_)
  · obtain ⟨hX, ⟨ho, rfl⟩ | ⟨ho, rfl⟩⟩ := h3
    · refine ⟨12, catch1 (by decide) (by decide) (by decide +kernel) (by decide +kernel), fun q => ?_⟩
      refine g_astore_n hJ (by decide) dL_bits_12 ?_
      refine g_iconst hJ dL_bits_13 ?_
      exact w_iret hJ (Nat.le_of_ble_eq_true rfl) (⟨Z3, f, by rw [ho], hX, fun c => absurd (ho.symm.trans c) (by decide), rfl⟩) dL_bits_14
    · exact (by rcases oBits_e g p0 with c | c <;> exact absurd (ho.symm.trans c) (by decide))
  · obtain ⟨rfl, ho, hX⟩ := h3
    refine g_i2lv hJ dL_bits_7 ?_
    refine g_lastore hJ dL_bits_8 ?_
    refine g_goto (tgt := 15) hJ (by decide) dL_bits_9 ?_
    refine g_iconst hJ dL_bits_15 ?_
    exact w_iret hJ (Nat.le_of_ble_eq_true rfl) (⟨Z3, _, by rw [ho], hX, fun _ => rfl, rfl⟩) dL_bits_16
set_option maxRecDepth 20000 in
theorem kL_word (hl0 : l.stackTraces = false) (g : Nat → Int) (hI : XI Z g) (p0 p1 : Int) (h0 : i32 p0) (h1 : i32 p1) : CtG l D (tL cI cO cL) yL_word wsL_word 8 2 142 [.ref (a 0), .int (iZ p0), .int (iZ p1), .ref o] (wX cI cO a Z ++ wO cL o f) (fun v w' => ∃ (Z' : ZZ) (f' : Nat → Int64), v = some (.int (iZ (oWord g p0 p1).1)) ∧ XI Z' g ∧ ((oWord g p0 p1).1 = 0 → f' 0 = (iZ (oWord g p0 p1).2).toInt64) ∧ w' = wX cI cO a Z' ++ wO cL o f') := by
  refine CtG.ofH (cc := cL_word) (maxL := 5) (hh := [(0, 10, 13, 13)]) rfl (by decide) rfl (Nat.le_of_ble_eq_true rfl) (fun J hJ => ?_)
  refine g_aload_n hJ dL_word_0 rfl ?_
  refine g_iconst hJ dL_word_1 ?_
  refine g_aload_n hJ dL_word_2 rfl ?_
  refine g_iload_n hJ dL_word_3 rfl ?_
  refine g_iload_n hJ dL_word_4 rfl ?_
  refine w_callV (r2 := wO cL o f) hJ (kX0_word l D cI cO a Z hl0 g hI p0 p1 h0 h1) rfl gL_word_X0_word rfl hdX0_word rfl ⟨Nat.le_of_ble_eq_true rfl, Nat.le_of_ble_eq_true rfl⟩ (Nat.le_of_ble_eq_true rfl) (Nat.le_of_ble_eq_true rfl) rfl rfl [0, 1] rfl dL_word_5 (fun E Z3 h3 => ?_) (fun r3 Z3 h3 => ?_)
  · obtain ⟨hX, ⟨ho, rfl⟩ | ⟨ho, rfl⟩⟩ := h3
    · refine ⟨13, catch1 (by decide) (by decide) (by decide +kernel) (by decide +kernel), fun q => ?_⟩
      refine g_astore hJ (by decide) dL_word_13 ?_
      refine g_iconst hJ dL_word_15 ?_
      exact w_iret hJ (Nat.le_of_ble_eq_true rfl) (⟨Z3, f, by rw [ho], hX, fun c => absurd (ho.symm.trans c) (by decide), rfl⟩) dL_word_16
    · exact (by rcases oWord_e g p0 p1 with c | c <;> exact absurd (ho.symm.trans c) (by decide))
  · obtain ⟨rfl, ho, hX⟩ := h3
    refine g_i2lv hJ dL_word_8 ?_
    refine g_lastore hJ dL_word_9 ?_
    refine g_goto (tgt := 17) hJ (by decide) dL_word_10 ?_
    refine g_iconst hJ dL_word_17 ?_
    exact w_iret hJ (Nat.le_of_ble_eq_true rfl) (⟨Z3, _, by rw [ho], hX, fun _ => rfl, rfl⟩) dL_word_18
set_option maxRecDepth 20000 in
theorem kL_residue (hl0 : l.stackTraces = false) (g : Nat → Int) (hI : XI Z g) (p0 p1 : Int) (h0 : i32 p0) (h1 : i32 p1) : CtG l D (tL cI cO cL) yL_residue wsL_residue 8 2 145 [.ref (a 0), .int (iZ p0), .int (iZ p1), .ref o] (wX cI cO a Z ++ wO cL o f) (fun v w' => ∃ (Z' : ZZ) (f' : Nat → Int64), v = some (.int (iZ (oRes g p0 p1).1)) ∧ XI Z' g ∧ ((oRes g p0 p1).1 = 0 → f' 0 = (iZ (oRes g p0 p1).2).toInt64) ∧ w' = wX cI cO a Z' ++ wO cL o f') := by
  refine CtG.ofH (cc := cL_residue) (maxL := 5) (hh := [(0, 10, 13, 13), (0, 10, 17, 42)]) rfl (by decide) rfl (Nat.le_of_ble_eq_true rfl) (fun J hJ => ?_)
  refine g_aload_n hJ dL_residue_0 rfl ?_
  refine g_iconst hJ dL_residue_1 ?_
  refine g_aload_n hJ dL_residue_2 rfl ?_
  refine g_iload_n hJ dL_residue_3 rfl ?_
  refine g_iload_n hJ dL_residue_4 rfl ?_
  refine w_callV (r2 := wO cL o f) hJ (kX0_residue l D cI cO a Z hl0 g hI p0 p1 h0 h1) rfl gL_residue_X0_residue rfl hdX0_residue rfl ⟨Nat.le_of_ble_eq_true rfl, Nat.le_of_ble_eq_true rfl⟩ (Nat.le_of_ble_eq_true rfl) (Nat.le_of_ble_eq_true rfl) rfl rfl [0, 1] rfl dL_residue_5 (fun E Z3 h3 => ?_) (fun r3 Z3 h3 => ?_)
  · obtain ⟨hX, ⟨ho, rfl⟩ | ⟨ho, rfl⟩⟩ := h3
    · refine ⟨13, catch1 (by decide) (by decide) (by decide +kernel) (by decide +kernel), fun q => ?_⟩
      refine g_astore hJ (by decide) dL_residue_13 ?_
      refine g_iconst hJ dL_residue_15 ?_
      exact w_iret hJ (Nat.le_of_ble_eq_true rfl) (⟨Z3, f, by rw [ho], hX, fun c => absurd (ho.symm.trans c) (by decide), rfl⟩) dL_residue_16
    · refine ⟨17, catch2 (by decide) (by decide +kernel) (Or.inr rfl) (by decide) (by decide) (by decide +kernel) (by decide +kernel), fun q => ?_⟩
      refine g_astore hJ (by decide) dL_residue_17 ?_
      refine g_iconst hJ dL_residue_19 ?_
      exact w_iret hJ (Nat.le_of_ble_eq_true rfl) (⟨Z3, f, by rw [ho], hX, fun c => absurd (ho.symm.trans c) (by decide), rfl⟩) dL_residue_20
  · obtain ⟨rfl, ho, hX⟩ := h3
    refine g_i2lv hJ dL_residue_8 ?_
    refine g_lastore hJ dL_residue_9 ?_
    refine g_goto (tgt := 21) hJ (by decide) dL_residue_10 ?_
    refine g_iconst hJ dL_residue_21 ?_
    exact w_iret hJ (Nat.le_of_ble_eq_true rfl) (⟨Z3, _, by rw [ho], hX, fun _ => rfl, rfl⟩) dL_residue_22
end WRP
