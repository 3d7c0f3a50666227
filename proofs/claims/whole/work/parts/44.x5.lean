/-- what a throw of the class says -/
def pT (g : Nat → Int) (o : Int) (e2 : String) (E : String) (Z' : ZZ) : Prop := XI Z' g ∧ ((o = 1 ∧ E = eI) ∨ (o = 2 ∧ E = e2))
theorem oSet_n {g : Nat → Int} {r v : Int} (h : ¬ isRg r) : oSet g r v = (1, g) := if_neg h
theorem oSet_y {g : Nat → Int} {r v : Int} (h : isRg r) : oSet g r v = (0, gset g r.toNat v) := if_pos h
theorem oApp_n {g : Nat → Int} {r w : Int} (h : ¬ isRg r) : oApp g r w = (1, g) := if_neg h
theorem oNeg_n {g : Nat → Int} {r : Int} (h : ¬ isRg r) : oNeg g r = (1, g) := if_neg h
theorem oNeg_y {g : Nat → Int} {r : Int} (h : isRg r) : oNeg g r = (0, gset g r.toNat (- g r.toNat)) := if_pos h
theorem oCopy_n {g : Nat → Int} {r a : Int} (h : ¬ (isRg r ∧ isRg a)) : oCopy g r a = (1, g) := if_neg h
theorem oCopy_y {g : Nat → Int} {r a : Int} (h : isRg r ∧ isRg a) : oCopy g r a = (0, gset g r.toNat (g a.toNat)) := if_pos h
theorem XI_neg {Z : ZZ} {g : Nat → Int} (h : XI Z g) {r : Nat} (hr : r < 12) : XI (zup Z 1 r (- (g r).sign)) (gset g r (- g r)) := by
  refine ⟨by rw [zup_off Z 1 r _ (j' := 2) (by omega), zup_off Z 1 r _ (j' := 3) (by omega), zup_off Z 1 r _ (j' := 4) (by omega)]; exact h.1, fun i hi => ?_⟩
  rw [zup_off Z 1 r _ (j' := i + 5) (by omega), zup_off Z 1 r _ (j' := 0) (by omega)]
  have hq := h.2 i hi
  by_cases q : i = r
  · subst q
    rw [zup_eq, gset_eq, Int.natAbs_neg, Int.sign_neg]
    exact ⟨hq.1, hq.2.1, rfl, hq.2.2.2⟩
  · rw [zup_ne (by omega), gset_ne q]; exact hq
theorem XI_copy {Z : ZZ} {g : Nat → Int} (h : XI Z g) {r i : Nat} (hr : r < 12) (hi : i < 12) : XI (zup (zup (zcp Z (i + 5) 0 (r + 5) 0 512) 0 r (Z 0 i)) 1 r (Z 1 i)) (gset g r (g i)) := by
  have hrow : ∀ k, k < 512 → zup (zup (zcp Z (i + 5) 0 (r + 5) 0 512) 0 r (Z 0 i)) 1 r (Z 1 i) (r + 5) k = Z (i + 5) k := fun k hk => by
    rw [zup_ne (by omega), zup_ne (by omega)]
    unfold zcp
    rw [if_pos ⟨rfl, by omega, by omega⟩]
    congr 1; omega
  have hoff : ∀ j, j ≠ 0 → j ≠ 1 → j ≠ r + 5 → zup (zup (zcp Z (i + 5) 0 (r + 5) 0 512) 0 r (Z 0 i)) 1 r (Z 1 i) j = Z j := fun j a1 a2 a3 => by
    rw [zup_off _ 1 _ _ a2, zup_off _ 0 _ _ a1, zcp_off _ _ _ _ _ _ a3]
  have hi2 := h.2 i hi
  refine ⟨by rw [hoff 2 (by omega) (by omega) (by omega), hoff 3 (by omega) (by omega) (by omega), hoff 4 (by omega) (by omega) (by omega)]; exact h.1, fun k hk => ?_⟩
  by_cases q : k = r
  · subst q
    rw [gset_eq, zup_eq, zup_ne (j := 1) (by omega), zup_eq, vs_congr hrow, lenr_congr hrow]
    exact ⟨fun y hy => by rw [hrow y hy]; exact hi2.1 y hy, hi2.2⟩
  · rw [gset_ne q, hoff (k + 5) (by omega) (by omega) (by omega), zup_ne (j' := 1) (by omega), zup_ne (j' := 1) (by omega), zcp_off _ _ _ _ _ _ (by omega), zup_ne (j := 1) (j' := 0) (by omega), zup_ne (j' := 0) (by omega), zcp_off _ _ _ _ _ _ (by omega)]
    exact h.2 k hk
/-- after the result row has got a number that fits: lim is 0 -/
theorem res_XI {Z : ZZ} {g : Nat → Int} (h : XI Z g) {f : Nat → Int} (hf : dgs 4294967296 513 f) : XI (zrw Z 2 513 f) g := by
  refine h.scr (fun j a1 a2 a3 => zrw_off a1) (fun i hi => by rw [zrw_in hi]; exact hf i hi) ?_ ?_
  · rw [zrw_off (by omega)]; exact h.1.2.1
  · rw [zrw_off (by omega)]; exact h.1.2.2
theorem vs_513 {f : Nat → Int} : vs 4294967296 f 513 = vs 4294967296 f 512 + f 512 * LIM := by rw [LIM_X]; rfl
section X5
variable (l : Launch) (D : va_G) (cI cO : ClassId) (a : Nat → Nat) (Z : ZZ)
set_option maxRecDepth 20000 in
theorem kX0_negate (hl0 : l.stackTraces = false) (g : Nat → Int) (hI : XI Z g) (r : Int) (h0 : i32 r) : Ct l D (tX cI cO) (wX cI cO a) yX0_negate wsX0_negate 7 1 120 [.ref (a 0), .int (iZ r)] Z (fun v Z' => v = none ∧ (oNeg g r).1 = 0 ∧ XI Z' (oNeg g r).2) (pT g (oNeg g r).1 eS) := by
  refine Ct.of (cc := cX0_negate) (maxL := 2) (ret := none) rfl (by decide) rfl (Nat.le_of_ble_eq_true rfl) (fun J hJ => ?_)
  have hin : ∀ w ∈ u_ws RX0 TX0 6, w ∈ wsX0_negate := by decide +kernel
  refine j_iload_n hJ dX0_negate_0 rfl ?_
  refine j_callS hJ (kX0_checkRegister l D hl0 _ ⟨by omega, by omega⟩) rfl gX0_negate_X0_checkRegister rfl hsX0_checkRegister rfl ⟨Nat.le_of_ble_eq_true rfl, Nat.le_of_ble_eq_true rfl⟩ (Nat.le_of_ble_eq_true rfl) (Nat.le_of_ble_eq_true rfl) dX0_negate_1 (fun E h => ⟨hI, Or.inl ⟨by rw [oNeg_n h.2], h.1⟩⟩) (fun r1 hp1 => ?_)
  obtain ⟨rfl, hr1⟩ := hp1
  refine j_aload_n hJ dX0_negate_4 rfl ?_
  refine x_signs hJ hin (by decide +kernel) dX0_negate_5 ?_
  refine j_iload_n hJ dX0_negate_8 rfl ?_
  refine j_aload_n hJ dX0_negate_9 rfl ?_
  refine x_signs hJ hin (by decide +kernel) dX0_negate_10 ?_
  refine j_iload_n hJ dX0_negate_13 rfl ?_
  refine x_ald_s hJ ⟨by omega, by omega⟩ dX0_negate_14 ?_
  rw [(hI.2 r.toNat (by omega)).2.2.1]
  refine j_ineg hJ dX0_negate_15 ?_
  refine x_ast_s hJ ⟨by omega, by omega⟩ dX0_negate_16 ?_
  exact j_vret hJ (Nat.le_of_ble_eq_true rfl) (by rw [oNeg_y hr1]; exact ⟨rfl, rfl, XI_neg hI (by omega)⟩) dX0_negate_17
set_option maxRecDepth 20000 in
theorem kX0_copy (hl0 : l.stackTraces = false) (g : Nat → Int) (hI : XI Z g) (r i : Int) (h0 : i32 r) (h1 : i32 i) : Ct l D (tX cI cO) (wX cI cO a) yX0_copy wsX0_copy 7 2 120 [.ref (a 0), .int (iZ r), .int (iZ i)] Z (fun v Z' => v = none ∧ (oCopy g r i).1 = 0 ∧ XI Z' (oCopy g r i).2) (pT g (oCopy g r i).1 eS) := by
  refine Ct.of (cc := cX0_copy) (maxL := 3) (ret := none) rfl (by decide) rfl (Nat.le_of_ble_eq_true rfl) (fun J hJ => ?_)
  have hin : ∀ w ∈ u_ws RX0 TX0 6, w ∈ wsX0_copy := by decide +kernel
  refine j_iload_n hJ dX0_copy_0 rfl ?_
  refine j_callS hJ (kX0_checkRegister l D hl0 _ ⟨by omega, by omega⟩) rfl gX0_copy_X0_checkRegister rfl hsX0_checkRegister rfl ⟨Nat.le_of_ble_eq_true rfl, Nat.le_of_ble_eq_true rfl⟩ (Nat.le_of_ble_eq_true rfl) (Nat.le_of_ble_eq_true rfl) dX0_copy_1 (fun E h => ⟨hI, Or.inl ⟨by rw [oCopy_n (fun q => h.2 q.1)], h.1⟩⟩) (fun r1 hp1 => ?_)
  obtain ⟨rfl, hr1⟩ := hp1
  refine j_iload_n hJ dX0_copy_4 rfl ?_
  refine j_callS hJ (kX0_checkRegister l D hl0 _ ⟨by omega, by omega⟩) rfl gX0_copy_X0_checkRegister rfl hsX0_checkRegister rfl ⟨Nat.le_of_ble_eq_true rfl, Nat.le_of_ble_eq_true rfl⟩ (Nat.le_of_ble_eq_true rfl) (Nat.le_of_ble_eq_true rfl) dX0_copy_5 (fun E h => ⟨hI, Or.inl ⟨by rw [oCopy_n (fun q => h.2 q.2)], h.1⟩⟩) (fun r5 hp5 => ?_)
  obtain ⟨rfl, hr5⟩ := hp5
  refine j_aload_n hJ dX0_copy_8 rfl ?_
  refine x_words hJ hin (by decide +kernel) dX0_copy_9 ?_
  refine j_iload_n hJ dX0_copy_12 rfl ?_
  refine x_row hJ ⟨by omega, by omega⟩ dX0_copy_13 ?_
  refine j_iconst hJ dX0_copy_14 ?_
  refine j_aload_n hJ dX0_copy_15 rfl ?_
  refine x_words hJ hin (by decide +kernel) dX0_copy_16 ?_
  refine j_iload_n hJ dX0_copy_19 rfl ?_
  refine x_row hJ ⟨by omega, by omega⟩ dX0_copy_20 ?_
  refine j_iconst hJ dX0_copy_21 ?_
  refine j_sipush hJ (by decide) dX0_copy_22 ?_
  refine x_copy hJ (j1 := i.toNat + 5) (j2 := r.toNat + 5) (by omega) (by omega) (by omega) (by omega) (by omega) (by rw [xln_row]; omega) (by rw [xln_row]; omega) (by decide +kernel) (by decide +kernel) (by decide +kernel) (by decide +kernel) (Nat.le_of_ble_eq_true rfl) (Nat.le_of_ble_eq_true rfl) dX0_copy_25 ?_
  refine j_aload_n hJ dX0_copy_28 rfl ?_
  refine x_counts hJ hin (by decide +kernel) dX0_copy_29 ?_
  refine j_iload_n hJ dX0_copy_32 rfl ?_
  refine j_aload_n hJ dX0_copy_33 rfl ?_
  refine x_counts hJ hin (by decide +kernel) dX0_copy_34 ?_
  refine j_iload_n hJ dX0_copy_37 rfl ?_
  refine x_ald_c hJ ⟨by omega, by omega⟩ dX0_copy_38 ?_
  rw [zcp_off _ _ _ _ _ _ (j' := 0) (by omega)]
  refine x_ast_c hJ ⟨by omega, by omega⟩ dX0_copy_39 ?_
  refine j_aload_n hJ dX0_copy_40 rfl ?_
  refine x_signs hJ hin (by decide +kernel) dX0_copy_41 ?_
  refine j_iload_n hJ dX0_copy_44 rfl ?_
  refine j_aload_n hJ dX0_copy_45 rfl ?_
  refine x_signs hJ hin (by decide +kernel) dX0_copy_46 ?_
  refine j_iload_n hJ dX0_copy_49 rfl ?_
  refine x_ald_s hJ ⟨by omega, by omega⟩ dX0_copy_50 ?_
  rw [zup_off _ 0 _ _ (j' := 1) (by omega), zcp_off _ _ _ _ _ _ (j' := 1) (by omega)]
  refine x_ast_s hJ ⟨by omega, by omega⟩ dX0_copy_51 ?_
  exact j_vret hJ (Nat.le_of_ble_eq_true rfl) (by rw [oCopy_y ⟨hr1, hr5⟩]; exact ⟨rfl, rfl, XI_copy hI (by omega) (by omega)⟩) dX0_copy_52
set_option maxRecDepth 20000 in
theorem kX0_set (hl0 : l.stackTraces = false) (g : Nat → Int) (hI : XI Z g) (r v : Int) (h0 : i32 r) (h1 : i64 v) : Ct l D (tX cI cO) (wX cI cO a) yX0_set wsX0_set 7 1 120 [.ref (a 0), .int (iZ r), .long (lZ v)] Z (fun w Z' => w = none ∧ (oSet g r v).1 = 0 ∧ XI Z' (oSet g r v).2) (pT g (oSet g r v).1 eS) := by
  refine Ct.of (cc := cX0_set) (maxL := 6) (ret := none) rfl (by decide) rfl (Nat.le_of_ble_eq_true rfl) (fun J hJ => ?_)
  have hin : ∀ w ∈ u_ws RX0 TX0 6, w ∈ wsX0_set := by decide +kernel
  have fin : ∀ (x y s : Int), isRg r → (0 ≤ x ∧ x < 4294967296) → (0 ≤ y ∧ y < 4294967296) → x + y * 4294967296 = (v.natAbs : Int) → (v ≠ 0 → s = v.sign) → dgs 4294967296 513 (zup (zup (zrw Z 2 513 (fun _ => 0)) 2 0 x) 2 1 y 2) ∧ XI (kp (zup (zup (zrw Z 2 513 (fun _ => 0)) 2 0 x) 2 1 y) r.toNat s) (gset g r.toNat v) := by
    intro x y s hr hx hy hv hs
    have e : zup (zup (zrw Z 2 513 (fun _ => 0)) 2 0 x) 2 1 y = zrw Z 2 513 (fset (fset (fun _ => 0) 0 x) 1 y) := by rw [zrw_upd (by omega), zrw_upd (by omega)]
    have dz : dgs 4294967296 513 (fset (fset (fun _ => 0) 0 x) 1 y) := dgs_upd (dgs_upd (fun _ _ => ⟨by show (0 : Int) ≤ 0; decide, by show (0 : Int) < 4294967296; decide⟩) hx) hy
    have hX := res_XI hI dz
    rw [e]
    refine ⟨hX.1.1, kp_XI hX (by omega) ?_ hs⟩
    rw [vs_congr (g := fset (fset (fun _ => 0) 0 x) 1 y) (fun k hk => zrw_in (by omega)), vs_top (m := 2) (by omega) (fun k q1 q2 => by rw [fset_ne (by omega), fset_ne (by omega)])]
    show 0 + fset (fset (fun _ => 0) 0 x) 1 y 0 * 4294967296 ^ 0 + fset (fset (fun _ => 0) 0 x) 1 y 1 * 4294967296 ^ 1 = _
    rw [fset_ne (by omega), fset_eq, fset_eq, show (4294967296 : Int) ^ 0 = 1 by decide, show (4294967296 : Int) ^ 1 = 4294967296 by decide]
    omega
  have sc := sg_cases v
  refine j_iload_n hJ dX0_set_0 rfl ?_
  refine j_callS hJ (kX0_checkRegister l D hl0 _ ⟨by omega, by omega⟩) rfl gX0_set_X0_checkRegister rfl hsX0_checkRegister rfl ⟨Nat.le_of_ble_eq_true rfl, Nat.le_of_ble_eq_true rfl⟩ (Nat.le_of_ble_eq_true rfl) (Nat.le_of_ble_eq_true rfl) dX0_set_1 (fun E h => ⟨hI, Or.inl ⟨by rw [oSet_n h.2], h.1⟩⟩) (fun r1 hp1 => ?_)
  obtain ⟨rfl, hr1⟩ := hp1
  refine j_lload_n hJ dX0_set_4 rfl ?_
  refine j_lconst (z := 0) hJ (by decide) dX0_set_5 ?_
  refine j_lcmp_ge (tgt := 15) hJ (by decide) ⟨by omega, by omega⟩ ⟨by omega, by omega⟩ dX0_set_6 dX0_set_7 (fun h6 => ?_) (fun h6 => ?_)
  · refine j_lload_n hJ dX0_set_15 rfl ?_
    refine j_lstore hJ (by decide) dX0_set_16 ?_
    refine j_aload_n hJ dX0_set_18 rfl ?_
    refine x_result hJ hin (by decide +kernel) dX0_set_19 ?_
    refine j_iconst hJ dX0_set_22 ?_
    refine x_fill hJ (j := 2) (N := 513) (by decide) rfl gX0_set_J7_fill_53178 ⟨Nat.le_of_ble_eq_true rfl, Nat.le_of_ble_eq_true rfl⟩ (Nat.le_of_ble_eq_true rfl) (Nat.le_of_ble_eq_true rfl) dX0_set_23 ?_
    refine j_aload_n hJ dX0_set_26 rfl ?_
    refine x_result hJ hin (by decide +kernel) dX0_set_27 ?_
    refine j_iconst hJ dX0_set_30 ?_
    refine j_lload hJ dX0_set_31 rfl ?_
    refine j_l2w hJ dX0_set_33 ?_
    refine x_ast_r hJ ⟨by omega, by omega⟩ dX0_set_34 ?_
    refine j_aload_n hJ dX0_set_35 rfl ?_
    refine x_result hJ hin (by decide +kernel) dX0_set_36 ?_
    refine j_iconst hJ dX0_set_39 ?_
    refine j_lload hJ dX0_set_40 rfl ?_
    refine j_bipush hJ (by decide) dX0_set_42 ?_
    refine j_lushr (n := 32) hJ (by decide) dX0_set_44 ?_
    refine j_l2w hJ dX0_set_45 ?_
    refine x_ast_r hJ ⟨by omega, by omega⟩ dX0_set_46 ?_
    refine j_aload_n hJ dX0_set_47 rfl ?_
    refine j_iload_n hJ dX0_set_48 rfl ?_
    refine j_lload_n hJ dX0_set_49 rfl ?_
    refine j_lconst (z := 0) hJ (by decide) dX0_set_50 ?_
    refine j_lcmp_ge (tgt := 59) hJ (by decide) ⟨by omega, by omega⟩ ⟨by omega, by omega⟩ dX0_set_51 dX0_set_52 (fun h51 => ?_) (fun h51 => ?_)
    · refine j_iconst hJ dX0_set_59 ?_
      refine j_callV hJ (kX0_keepResult l D cI cO a _ _ _ hr1 (fin _ _ v.sign hr1 ⟨by omega, by omega⟩ ⟨by omega, by omega⟩ (by omega) (fun _ => rfl)).1) rfl gX0_set_X0_keepResult rfl hdX0_keepResult rfl ⟨Nat.le_of_ble_eq_true rfl, Nat.le_of_ble_eq_true rfl⟩ (Nat.le_of_ble_eq_true rfl) (Nat.le_of_ble_eq_true rfl) rfl rfl dX0_set_60 (fun _ _ h => False.elim h) (fun r60 Z60 hp60 => ?_)
      obtain ⟨rfl, rfl⟩ := hp60
      exact j_vret hJ (Nat.le_of_ble_eq_true rfl) (by rw [oSet_y hr1]; exact ⟨rfl, rfl, (fin _ _ _ hr1 ⟨by omega, by omega⟩ ⟨by omega, by omega⟩ (by omega) (by omega)).2⟩) dX0_set_63
    · refine j_iconst hJ dX0_set_55 ?_
      refine j_goto (tgt := 60) hJ (by decide) dX0_set_56 ?_
      refine j_callV hJ (kX0_keepResult l D cI cO a _ _ _ hr1 (fin _ _ v.sign hr1 ⟨by omega, by omega⟩ ⟨by omega, by omega⟩ (by omega) (fun _ => rfl)).1) rfl gX0_set_X0_keepResult rfl hdX0_keepResult rfl ⟨Nat.le_of_ble_eq_true rfl, Nat.le_of_ble_eq_true rfl⟩ (Nat.le_of_ble_eq_true rfl) (Nat.le_of_ble_eq_true rfl) rfl rfl dX0_set_60 (fun _ _ h => False.elim h) (fun r60 Z60 hp60 => ?_)
      obtain ⟨rfl, rfl⟩ := hp60
      exact j_vret hJ (Nat.le_of_ble_eq_true rfl) (by rw [oSet_y hr1]; exact ⟨rfl, rfl, (fin _ _ _ hr1 ⟨by omega, by omega⟩ ⟨by omega, by omega⟩ (by omega) (by omega)).2⟩) dX0_set_63
  · refine j_lload_n hJ dX0_set_10 rfl ?_
    refine j_lneg hJ dX0_set_11 ?_
    refine j_goto (tgt := 16) hJ (by decide) dX0_set_12 ?_
    refine j_lstore hJ (by decide) dX0_set_16 ?_
    refine j_aload_n hJ dX0_set_18 rfl ?_
    refine x_result hJ hin (by decide +kernel) dX0_set_19 ?_
    refine j_iconst hJ dX0_set_22 ?_
    refine x_fill hJ (j := 2) (N := 513) (by decide) rfl gX0_set_J7_fill_53178 ⟨Nat.le_of_ble_eq_true rfl, Nat.le_of_ble_eq_true rfl⟩ (Nat.le_of_ble_eq_true rfl) (Nat.le_of_ble_eq_true rfl) dX0_set_23 ?_
    refine j_aload_n hJ dX0_set_26 rfl ?_
    refine x_result hJ hin (by decide +kernel) dX0_set_27 ?_
    refine j_iconst hJ dX0_set_30 ?_
    refine j_lload hJ dX0_set_31 rfl ?_
    refine j_l2w hJ dX0_set_33 ?_
    refine x_ast_r hJ ⟨by omega, by omega⟩ dX0_set_34 ?_
    refine j_aload_n hJ dX0_set_35 rfl ?_
    refine x_result hJ hin (by decide +kernel) dX0_set_36 ?_
    refine j_iconst hJ dX0_set_39 ?_
    refine j_lload hJ dX0_set_40 rfl ?_
    refine j_bipush hJ (by decide) dX0_set_42 ?_
    refine j_lushr (n := 32) hJ (by decide) dX0_set_44 ?_
    refine j_l2w hJ dX0_set_45 ?_
    refine x_ast_r hJ ⟨by omega, by omega⟩ dX0_set_46 ?_
    refine j_aload_n hJ dX0_set_47 rfl ?_
    refine j_iload_n hJ dX0_set_48 rfl ?_
    refine j_lload_n hJ dX0_set_49 rfl ?_
    refine j_lconst (z := 0) hJ (by decide) dX0_set_50 ?_
    refine j_lcmp_ge (tgt := 59) hJ (by decide) ⟨by omega, by omega⟩ ⟨by omega, by omega⟩ dX0_set_51 dX0_set_52 (fun h51 => ?_) (fun h51 => ?_)
    · refine j_iconst hJ dX0_set_59 ?_
      refine j_callV hJ (kX0_keepResult l D cI cO a _ _ _ hr1 (fin _ _ v.sign hr1 ⟨by omega, by omega⟩ ⟨by omega, by omega⟩ (by omega) (fun _ => rfl)).1) rfl gX0_set_X0_keepResult rfl hdX0_keepResult rfl ⟨Nat.le_of_ble_eq_true rfl, Nat.le_of_ble_eq_true rfl⟩ (Nat.le_of_ble_eq_true rfl) (Nat.le_of_ble_eq_true rfl) rfl rfl dX0_set_60 (fun _ _ h => False.elim h) (fun r60 Z60 hp60 => ?_)
      obtain ⟨rfl, rfl⟩ := hp60
      exact j_vret hJ (Nat.le_of_ble_eq_true rfl) (by rw [oSet_y hr1]; exact ⟨rfl, rfl, (fin _ _ _ hr1 ⟨by omega, by omega⟩ ⟨by omega, by omega⟩ (by omega) (by omega)).2⟩) dX0_set_63
    · refine j_iconst hJ dX0_set_55 ?_
      refine j_goto (tgt := 60) hJ (by decide) dX0_set_56 ?_
      refine j_callV hJ (kX0_keepResult l D cI cO a _ _ _ hr1 (fin _ _ v.sign hr1 ⟨by omega, by omega⟩ ⟨by omega, by omega⟩ (by omega) (fun _ => rfl)).1) rfl gX0_set_X0_keepResult rfl hdX0_keepResult rfl ⟨Nat.le_of_ble_eq_true rfl, Nat.le_of_ble_eq_true rfl⟩ (Nat.le_of_ble_eq_true rfl) (Nat.le_of_ble_eq_true rfl) rfl rfl dX0_set_60 (fun _ _ h => False.elim h) (fun r60 Z60 hp60 => ?_)
      obtain ⟨rfl, rfl⟩ := hp60
      exact j_vret hJ (Nat.le_of_ble_eq_true rfl) (by rw [oSet_y hr1]; exact ⟨rfl, rfl, (fin _ _ _ hr1 ⟨by omega, by omega⟩ ⟨by omega, by omega⟩ (by omega) (by omega)).2⟩) dX0_set_63
theorem oCmpS_n {g : Nat → Int} {a b : Int} (h : ¬ (isRg a ∧ isRg b)) : oCmpS g a b = (1, 0) := if_neg h
theorem oCmp_n {g : Nat → Int} {a b : Int} (h : ¬ (isRg a ∧ isRg b)) : oCmp g a b = (1, 0) := if_neg h
theorem oSign_n {g : Nat → Int} {a : Int} (h : ¬ isRg a) : oSign g a = (1, 0) := if_neg h
theorem oBits_n {g : Nat → Int} {a : Int} (h : ¬ isRg a) : oBits g a = (1, 0) := if_neg h
theorem oWord_n {g : Nat → Int} {a k : Int} (h : ¬ (isRg a ∧ 0 ≤ k ∧ k < 512)) : oWord g a k = (1, 0) := if_neg h
theorem oRes_n {g : Nat → Int} {a m : Int} (h : ¬ isRg a) : oRes g a m = (1, 0) := if_neg h
theorem oCmpS_y {g : Nat → Int} {a b : Int} (h : isRg a ∧ isRg b) : oCmpS g a b = (0, cz ((g a.toNat).natAbs) ((g b.toNat).natAbs)) := if_pos h
theorem oCmp_y {g : Nat → Int} {a b : Int} (h : isRg a ∧ isRg b) : oCmp g a b = (0, cz (g a.toNat) (g b.toNat)) := if_pos h
theorem oSign_y {g : Nat → Int} {a : Int} (h : isRg a) : oSign g a = (0, (g a.toNat).sign) := if_pos h
theorem oBits_y {g : Nat → Int} {a : Int} (h : isRg a) : oBits g a = (0, (bl ((g a.toNat).natAbs) : Int)) := if_pos h
theorem oWord_y {g : Nat → Int} {a k : Int} (h : isRg a ∧ 0 ≤ k ∧ k < 512) : oWord g a k = (0, ((g a.toNat).natAbs : Int) / 4294967296 ^ k.toNat % 4294967296) := if_pos h
theorem oRes_y {g : Nat → Int} {a m : Int} (h : isRg a) : oRes g a m = if m < 1 then (2, 0) else (0, g a.toNat % m) := if_pos h
set_option maxRecDepth 20000 in
theorem kX0_compareSizes (hl0 : l.stackTraces = false) (g : Nat → Int) (hI : XI Z g) (r i : Int) (h0 : i32 r) (h1 : i32 i) : Ct l D (tX cI cO) (wX cI cO a) yX0_compareSizes wsX0_compareSizes 7 2 120 [.ref (a 0), .int (iZ r), .int (iZ i)] Z (fun v Z' => v = some (.int (iZ (oCmpS g r i).2)) ∧ (oCmpS g r i).1 = 0 ∧ XI Z' g) (pT g (oCmpS g r i).1 eS) := by
  refine Ct.of (cc := cX0_compareSizes) (maxL := 3) (ret := some .int) rfl (by decide) rfl (Nat.le_of_ble_eq_true rfl) (fun J hJ => ?_)
  refine j_iload_n hJ dX0_compareSizes_0 rfl ?_
  refine j_callS hJ (kX0_checkRegister l D hl0 _ ⟨by omega, by omega⟩) rfl gX0_compareSizes_X0_checkRegister rfl hsX0_checkRegister rfl ⟨Nat.le_of_ble_eq_true rfl, Nat.le_of_ble_eq_true rfl⟩ (Nat.le_of_ble_eq_true rfl) (Nat.le_of_ble_eq_true rfl) dX0_compareSizes_1 (fun E h => ⟨hI, Or.inl ⟨by rw [oCmpS_n (fun q => h.2 q.1)], h.1⟩⟩) (fun r1 hp1 => ?_)
  obtain ⟨rfl, hr1⟩ := hp1
  refine j_iload_n hJ dX0_compareSizes_4 rfl ?_
  refine j_callS hJ (kX0_checkRegister l D hl0 _ ⟨by omega, by omega⟩) rfl gX0_compareSizes_X0_checkRegister rfl hsX0_checkRegister rfl ⟨Nat.le_of_ble_eq_true rfl, Nat.le_of_ble_eq_true rfl⟩ (Nat.le_of_ble_eq_true rfl) (Nat.le_of_ble_eq_true rfl) dX0_compareSizes_5 (fun E h => ⟨hI, Or.inl ⟨by rw [oCmpS_n (fun q => h.2 q.2)], h.1⟩⟩) (fun r5 hp5 => ?_)
  obtain ⟨rfl, hr5⟩ := hp5
  refine j_aload_n hJ dX0_compareSizes_8 rfl ?_
  refine j_iload_n hJ dX0_compareSizes_9 rfl ?_
  refine j_iload_n hJ dX0_compareSizes_10 rfl ?_
  refine j_callV hJ (kX0_orderOfSizes l D cI cO a _ _ (by assumption) _ _ ⟨by omega, by omega⟩ ⟨by omega, by omega⟩) rfl gX0_compareSizes_X0_orderOfSizes rfl hdX0_orderOfSizes rfl ⟨Nat.le_of_ble_eq_true rfl, Nat.le_of_ble_eq_true rfl⟩ (Nat.le_of_ble_eq_true rfl) (Nat.le_of_ble_eq_true rfl) rfl rfl dX0_compareSizes_11 (fun _ _ h => False.elim h) (fun r11 Z11 hp11 => ?_)
  obtain ⟨rfl, rfl⟩ := hp11
  exact j_iret hJ (Nat.le_of_ble_eq_true rfl) (by rw [oCmpS_y ⟨hr1, hr5⟩]; exact ⟨rfl, rfl, hI⟩) dX0_compareSizes_14
set_option maxRecDepth 20000 in
theorem kX0_compare (hl0 : l.stackTraces = false) (g : Nat → Int) (hI : XI Z g) (r i : Int) (h0 : i32 r) (h1 : i32 i) : Ct l D (tX cI cO) (wX cI cO a) yX0_compare wsX0_compare 7 2 120 [.ref (a 0), .int (iZ r), .int (iZ i)] Z (fun v Z' => v = some (.int (iZ (oCmp g r i).2)) ∧ (oCmp g r i).1 = 0 ∧ XI Z' g) (pT g (oCmp g r i).1 eS) := by
  refine Ct.of (cc := cX0_compare) (maxL := 3) (ret := some .int) rfl (by decide) rfl (Nat.le_of_ble_eq_true rfl) (fun J hJ => ?_)
  have hin : ∀ w ∈ u_ws RX0 TX0 6, w ∈ wsX0_compare := by decide +kernel
  refine j_iload_n hJ dX0_compare_0 rfl ?_
  refine j_callS hJ (kX0_checkRegister l D hl0 _ ⟨by omega, by omega⟩) rfl gX0_compare_X0_checkRegister rfl hsX0_checkRegister rfl ⟨Nat.le_of_ble_eq_true rfl, Nat.le_of_ble_eq_true rfl⟩ (Nat.le_of_ble_eq_true rfl) (Nat.le_of_ble_eq_true rfl) dX0_compare_1 (fun E h => ⟨hI, Or.inl ⟨by rw [oCmp_n (fun q => h.2 q.1)], h.1⟩⟩) (fun r1 hp1 => ?_)
  obtain ⟨rfl, hr1⟩ := hp1
  refine j_iload_n hJ dX0_compare_4 rfl ?_
  refine j_callS hJ (kX0_checkRegister l D hl0 _ ⟨by omega, by omega⟩) rfl gX0_compare_X0_checkRegister rfl hsX0_checkRegister rfl ⟨Nat.le_of_ble_eq_true rfl, Nat.le_of_ble_eq_true rfl⟩ (Nat.le_of_ble_eq_true rfl) (Nat.le_of_ble_eq_true rfl) dX0_compare_5 (fun E h => ⟨hI, Or.inl ⟨by rw [oCmp_n (fun q => h.2 q.2)], h.1⟩⟩) (fun r5 hp5 => ?_)
  obtain ⟨rfl, hr5⟩ := hp5
  have s1 := (hI.2 r.toNat (by omega)).2.2.1
  have s2 := (hI.2 i.toNat (by omega)).2.2.1
  have c1 := sg_cases (g r.toNat)
  have c2 := sg_cases (g i.toNat)
  have cs := cz_spec (g r.toNat) (g i.toNat)
  have z1 := cz_spec ((g r.toNat).natAbs) ((g i.toNat).natAbs)
  refine j_aload_n hJ dX0_compare_8 rfl ?_
  refine x_signs hJ hin (by decide +kernel) dX0_compare_9 ?_
  refine j_iload_n hJ dX0_compare_12 rfl ?_
  refine x_ald_s hJ ⟨by omega, by omega⟩ dX0_compare_13 ?_
  refine j_aload_n hJ dX0_compare_14 rfl ?_
  refine x_signs hJ hin (by decide +kernel) dX0_compare_15 ?_
  refine j_iload_n hJ dX0_compare_18 rfl ?_
  refine x_ald_s hJ ⟨by omega, by omega⟩ dX0_compare_19 ?_
  rw [s1, s2]
  refine j_icmp_eq (tgt := 44) hJ (by decide) ⟨by omega, by omega⟩ ⟨by omega, by omega⟩ dX0_compare_20 (fun h20 => ?_) (fun h20 => ?_)
  · refine j_aload_n hJ dX0_compare_44 rfl ?_
    refine x_signs hJ hin (by decide +kernel) dX0_compare_45 ?_
    refine j_iload_n hJ dX0_compare_48 rfl ?_
    refine x_ald_s hJ ⟨by omega, by omega⟩ dX0_compare_49 ?_
    rw [s1]
    refine j_aload_n hJ dX0_compare_50 rfl ?_
    refine j_iload_n hJ dX0_compare_51 rfl ?_
    refine j_iload_n hJ dX0_compare_52 rfl ?_
    refine j_callV hJ (kX0_orderOfSizes l D cI cO a _ _ (by assumption) _ _ ⟨by omega, by omega⟩ ⟨by omega, by omega⟩) rfl gX0_compare_X0_orderOfSizes rfl hdX0_orderOfSizes rfl ⟨Nat.le_of_ble_eq_true rfl, Nat.le_of_ble_eq_true rfl⟩ (Nat.le_of_ble_eq_true rfl) (Nat.le_of_ble_eq_true rfl) rfl rfl dX0_compare_53 (fun _ _ h => False.elim h) (fun r53 Z53 hp53 => ?_)
    obtain ⟨rfl, rfl⟩ := hp53
    refine j_imul hJ dX0_compare_56 ?_
    exact j_iret hJ (Nat.le_of_ble_eq_true rfl) (by rw [oCmp_y ⟨hr1, hr5⟩]; refine ⟨?_, rfl, hI⟩; rw [show (g r.toNat).sign * cz ((g r.toNat).natAbs) ((g i.toNat).natAbs) = cz (g r.toNat) (g i.toNat) by (rcases c1 with ⟨_, e, _⟩ | ⟨_, e, _⟩ | ⟨_, e, _⟩ <;> rw [e] <;> omega)]) dX0_compare_57
  · refine j_aload_n hJ dX0_compare_23 rfl ?_
    refine x_signs hJ hin (by decide +kernel) dX0_compare_24 ?_
    refine j_iload_n hJ dX0_compare_27 rfl ?_
    refine x_ald_s hJ ⟨by omega, by omega⟩ dX0_compare_28 ?_
    refine j_aload_n hJ dX0_compare_29 rfl ?_
    refine x_signs hJ hin (by decide +kernel) dX0_compare_30 ?_
    refine j_iload_n hJ dX0_compare_33 rfl ?_
    refine x_ald_s hJ ⟨by omega, by omega⟩ dX0_compare_34 ?_
    rw [s1, s2]
    refine j_icmp_ge (tgt := 42) hJ (by decide) ⟨by omega, by omega⟩ ⟨by omega, by omega⟩ dX0_compare_35 (fun h35 => ?_) (fun h35 => ?_)
    · refine j_iconst hJ dX0_compare_42 ?_
      exact j_iret hJ (Nat.le_of_ble_eq_true rfl) (by rw [oCmp_y ⟨hr1, hr5⟩]; first | exact ⟨by rw [show cz (g r.toNat) (g i.toNat) = -1 by omega], rfl, hI⟩ | exact ⟨by rw [show cz (g r.toNat) (g i.toNat) = 1 by omega], rfl, hI⟩) dX0_compare_43
    · refine j_iconst hJ dX0_compare_38 ?_
      refine j_goto (tgt := 43) hJ (by decide) dX0_compare_39 ?_
      exact j_iret hJ (Nat.le_of_ble_eq_true rfl) (by rw [oCmp_y ⟨hr1, hr5⟩]; first | exact ⟨by rw [show cz (g r.toNat) (g i.toNat) = -1 by omega], rfl, hI⟩ | exact ⟨by rw [show cz (g r.toNat) (g i.toNat) = 1 by omega], rfl, hI⟩) dX0_compare_43
set_option maxRecDepth 20000 in
theorem kX0_sign (hl0 : l.stackTraces = false) (g : Nat → Int) (hI : XI Z g) (r : Int) (h0 : i32 r) : Ct l D (tX cI cO) (wX cI cO a) yX0_sign wsX0_sign 7 1 120 [.ref (a 0), .int (iZ r)] Z (fun v Z' => v = some (.int (iZ (oSign g r).2)) ∧ (oSign g r).1 = 0 ∧ XI Z' g) (pT g (oSign g r).1 eS) := by
  refine Ct.of (cc := cX0_sign) (maxL := 2) (ret := some .int) rfl (by decide) rfl (Nat.le_of_ble_eq_true rfl) (fun J hJ => ?_)
  have hin : ∀ w ∈ u_ws RX0 TX0 6, w ∈ wsX0_sign := by decide +kernel
  refine j_iload_n hJ dX0_sign_0 rfl ?_
  refine j_callS hJ (kX0_checkRegister l D hl0 _ ⟨by omega, by omega⟩) rfl gX0_sign_X0_checkRegister rfl hsX0_checkRegister rfl ⟨Nat.le_of_ble_eq_true rfl, Nat.le_of_ble_eq_true rfl⟩ (Nat.le_of_ble_eq_true rfl) (Nat.le_of_ble_eq_true rfl) dX0_sign_1 (fun E h => ⟨hI, Or.inl ⟨by rw [oSign_n h.2], h.1⟩⟩) (fun r1 hp1 => ?_)
  obtain ⟨rfl, hr1⟩ := hp1
  refine j_aload_n hJ dX0_sign_4 rfl ?_
  refine x_signs hJ hin (by decide +kernel) dX0_sign_5 ?_
  refine j_iload_n hJ dX0_sign_8 rfl ?_
  refine x_ald_s hJ ⟨by omega, by omega⟩ dX0_sign_9 ?_
  exact j_iret hJ (Nat.le_of_ble_eq_true rfl) (by rw [oSign_y hr1, (hI.2 r.toNat (by omega)).2.2.1]; exact ⟨rfl, rfl, hI⟩) dX0_sign_10
set_option maxRecDepth 20000 in
theorem kX0_bits (hl0 : l.stackTraces = false) (g : Nat → Int) (hI : XI Z g) (r : Int) (h0 : i32 r) : Ct l D (tX cI cO) (wX cI cO a) yX0_bits wsX0_bits 7 1 120 [.ref (a 0), .int (iZ r)] Z (fun v Z' => v = some (.int (iZ (oBits g r).2)) ∧ (oBits g r).1 = 0 ∧ XI Z' g) (pT g (oBits g r).1 eS) := by
  refine Ct.of (cc := cX0_bits) (maxL := 2) (ret := some .int) rfl (by decide) rfl (Nat.le_of_ble_eq_true rfl) (fun J hJ => ?_)
  refine j_iload_n hJ dX0_bits_0 rfl ?_
  refine j_callS hJ (kX0_checkRegister l D hl0 _ ⟨by omega, by omega⟩) rfl gX0_bits_X0_checkRegister rfl hsX0_checkRegister rfl ⟨Nat.le_of_ble_eq_true rfl, Nat.le_of_ble_eq_true rfl⟩ (Nat.le_of_ble_eq_true rfl) (Nat.le_of_ble_eq_true rfl) dX0_bits_1 (fun E h => ⟨hI, Or.inl ⟨by rw [oBits_n h.2], h.1⟩⟩) (fun r1 hp1 => ?_)
  obtain ⟨rfl, hr1⟩ := hp1
  refine j_aload_n hJ dX0_bits_4 rfl ?_
  refine j_iload_n hJ dX0_bits_5 rfl ?_
  refine j_callV hJ (kX0_bitsOf l D cI cO a _ _ (by assumption) _ ⟨by omega, by omega⟩) rfl gX0_bits_X0_bitsOf rfl hdX0_bitsOf rfl ⟨Nat.le_of_ble_eq_true rfl, Nat.le_of_ble_eq_true rfl⟩ (Nat.le_of_ble_eq_true rfl) (Nat.le_of_ble_eq_true rfl) rfl rfl dX0_bits_6 (fun _ _ h => False.elim h) (fun r6 Z6 hp6 => ?_)
  obtain ⟨⟨z, rfl, hz, hz2, _, _⟩, rfl⟩ := hp6
  exact j_iret hJ (Nat.le_of_ble_eq_true rfl) (by rw [oBits_y hr1, bl_eq hz]; exact ⟨rfl, rfl, hI⟩) dX0_bits_9
set_option maxRecDepth 20000 in
theorem kX0_word (hl0 : l.stackTraces = false) (g : Nat → Int) (hI : XI Z g) (r k : Int) (h0 : i32 r) (h1 : i32 k) : Ct l D (tX cI cO) (wX cI cO a) yX0_word wsX0_word 7 2 120 [.ref (a 0), .int (iZ r), .int (iZ k)] Z (fun v Z' => v = some (.int (iZ (oWord g r k).2)) ∧ (oWord g r k).1 = 0 ∧ XI Z' g) (pT g (oWord g r k).1 eS) := by
  refine Ct.of (cc := cX0_word) (maxL := 3) (ret := some .int) rfl (by decide) rfl (Nat.le_of_ble_eq_true rfl) (fun J hJ => ?_)
  have hin : ∀ w ∈ u_ws RX0 TX0 6, w ∈ wsX0_word := by decide +kernel
  refine j_iload_n hJ dX0_word_0 rfl ?_
  refine j_callS hJ (kX0_checkRegister l D hl0 _ ⟨by omega, by omega⟩) rfl gX0_word_X0_checkRegister rfl hsX0_checkRegister rfl ⟨Nat.le_of_ble_eq_true rfl, Nat.le_of_ble_eq_true rfl⟩ (Nat.le_of_ble_eq_true rfl) (Nat.le_of_ble_eq_true rfl) dX0_word_1 (fun E h => ⟨hI, Or.inl ⟨by rw [oWord_n (fun q => h.2 q.1)], h.1⟩⟩) (fun r1 hp1 => ?_)
  obtain ⟨rfl, hr1⟩ := hp1
  refine j_iload_n hJ dX0_word_4 rfl ?_
  refine j_if_lt (tgt := 15) hJ (by decide) ⟨by omega, by omega⟩ dX0_word_5 (fun h5 => ?_) (fun h5 => ?_)
  · exact x_throw_ioobe (text := "there is no such word") hJ hl0 (by decide +kernel) (by decide +kernel) (by decide +kernel) (by decide +kernel) dX0_word_15 dX0_word_18 dX0_word_19 dX0_word_21 dX0_word_24 (Nat.le_of_ble_eq_true rfl) (Nat.le_of_ble_eq_true rfl) (Nat.le_of_ble_eq_true rfl) (⟨hI, Or.inl ⟨by rw [oWord_n (by omega)], rfl⟩⟩)
  · refine j_iload_n hJ dX0_word_8 rfl ?_
    refine j_sipush hJ (by decide) dX0_word_9 ?_
    refine j_icmp_lt (tgt := 25) hJ (by decide) ⟨by omega, by omega⟩ ⟨by omega, by omega⟩ dX0_word_12 (fun h12 => ?_) (fun h12 => ?_)
    · refine j_aload_n hJ dX0_word_25 rfl ?_
      refine x_words hJ hin (by decide +kernel) dX0_word_26 ?_
      refine j_iload_n hJ dX0_word_29 rfl ?_
      refine x_row hJ ⟨by omega, by omega⟩ dX0_word_30 ?_
      refine j_iload_n hJ dX0_word_31 rfl ?_
      refine x_ald_w hJ (by omega) ⟨by omega, by omega⟩ dX0_word_32 ?_
      exact j_iret hJ (Nat.le_of_ble_eq_true rfl) (by rw [oWord_y ⟨hr1, by omega, by omega⟩, ← (hI.2 r.toNat (by omega)).2.1, vs_digit (by decide) (show k.toNat < 512 by omega) (hI.2 r.toNat (by omega)).1]; exact ⟨rfl, rfl, hI⟩) dX0_word_33
    · exact x_throw_ioobe (text := "there is no such word") hJ hl0 (by decide +kernel) (by decide +kernel) (by decide +kernel) (by decide +kernel) dX0_word_15 dX0_word_18 dX0_word_19 dX0_word_21 dX0_word_24 (Nat.le_of_ble_eq_true rfl) (Nat.le_of_ble_eq_true rfl) (Nat.le_of_ble_eq_true rfl) (⟨hI, Or.inl ⟨by rw [oWord_n (by omega)], rfl⟩⟩)
set_option maxRecDepth 20000 in
theorem kX0_residue (hl0 : l.stackTraces = false) (g : Nat → Int) (hI : XI Z g) (r m : Int) (h0 : i32 r) (h1 : i32 m) : Ct l D (tX cI cO) (wX cI cO a) yX0_residue wsX0_residue 7 2 120 [.ref (a 0), .int (iZ r), .int (iZ m)] Z (fun v Z' => v = some (.int (iZ (oRes g r m).2)) ∧ (oRes g r m).1 = 0 ∧ XI Z' g) (pT g (oRes g r m).1 eA) := by
  refine Ct.of (cc := cX0_residue) (maxL := 6) (ret := some .int) rfl (by decide) rfl (Nat.le_of_ble_eq_true rfl) (fun J hJ => ?_)
  have hin : ∀ w ∈ u_ws RX0 TX0 6, w ∈ wsX0_residue := by decide +kernel
  have loop : isRg r → 1 ≤ m → ∀ n : Nat, n ≤ 512 → J Z 1 31 [(0, .ref (a 0)), (1, .int (iZ r)), (2, .int (iZ m)), (3, .long (lZ (vs 4294967296 (Z (r.toNat + 5)) 512 / 4294967296 ^ n % m))), (5, .int (iZ ((n : Int) - 1)))] [] := by
    intro hr hm n
    obtain ⟨hd, hv, hs, hc⟩ := hI.2 r.toNat (by omega)
    induction n with
    | zero =>
      intro hn
      have sc := sg_cases (g r.toNat)
      have e0 : vs 4294967296 (Z (r.toNat + 5)) 512 / 4294967296 ^ 0 % m = ((g r.toNat).natAbs : Int) % m := by rw [Int.pow_zero, Int.ediv_one, hv]
      rw [e0]
      have b1 := Int.emod_nonneg ((g r.toNat).natAbs : Int) (show m ≠ 0 by omega)
      have b2 := Int.emod_lt_of_pos ((g r.toNat).natAbs : Int) (show 0 < m by omega)
      have fin1 : 0 ≤ g r.toNat → g r.toNat % m = ((g r.toNat).natAbs : Int) % m := fun q => by rw [show ((g r.toNat).natAbs : Int) = g r.toNat by omega]
      have fin2 : g r.toNat < 0 → ((g r.toNat).natAbs : Int) % m = 0 → g r.toNat % m = ((g r.toNat).natAbs : Int) % m := fun q q2 => by
        rw [show ((g r.toNat).natAbs : Int) = - g r.toNat by omega] at b1 q2 ⊢
        rw [q2]
        exact Int.emod_eq_zero_of_dvd ((Int.dvd_neg).mp (Int.dvd_of_emod_eq_zero q2))
      have fin3 : g r.toNat < 0 → ¬ ((g r.toNat).natAbs : Int) % m = 0 → g r.toNat % m = m - ((g r.toNat).natAbs : Int) % m := fun q q2 => by
        rw [show ((g r.toNat).natAbs : Int) = - g r.toNat by omega] at b1 b2 q2 ⊢
        have e : g r.toNat = (m - -g r.toNat % m) + m * (-(-g r.toNat / m) - 1) := by
          have := Int.mul_ediv_add_emod (-g r.toNat) m
          grind
        rw [e, Int.add_mul_emod_self_left, ← e]
        exact Int.emod_eq_of_lt (by omega) (by omega)
      have hy : oRes g r m = (0, g r.toNat % m) := by rw [oRes_y hr, if_neg (by omega)]
      generalize ((g r.toNat).natAbs : Int) % m = y at b1 b2 fin1 fin2 fin3 ⊢
      refine j_iload hJ dX0_residue_31 rfl ?_
      refine j_if_lt (tgt := 59) hJ (by decide) ⟨by omega, by omega⟩ dX0_residue_33 (fun h33 => ?_) (fun h33 => ?_)
      · refine j_aload_n hJ dX0_residue_59 rfl ?_
        refine x_signs hJ hin (by decide +kernel) dX0_residue_60 ?_
        refine j_iload_n hJ dX0_residue_63 rfl ?_
        refine x_ald_s hJ ⟨by omega, by omega⟩ dX0_residue_64 ?_
        rw [hs]
        refine j_if_ge (tgt := 79) hJ (by decide) ⟨by omega, by omega⟩ dX0_residue_65 (fun h65 => ?_) (fun h65 => ?_)
        · refine j_lload_n hJ dX0_residue_79 rfl ?_
          refine j_l2w hJ dX0_residue_80 ?_
          exact j_iret hJ (Nat.le_of_ble_eq_true rfl) (by rw [hy]; exact ⟨by first | rw [fin1 (by omega), Int.emod_eq_of_lt b1 (by omega)] | rw [fin2 (by omega) (by omega), Int.emod_eq_of_lt b1 (by omega)] | rw [fin3 (by omega) (by omega), Int.emod_eq_of_lt (by omega) (by omega)], rfl, hI⟩) dX0_residue_81
        · refine j_lload_n hJ dX0_residue_68 rfl ?_
          refine j_lconst (z := 0) hJ (by decide) dX0_residue_69 ?_
          refine j_lcmp_eq (tgt := 79) hJ (by decide) ⟨by omega, by omega⟩ ⟨by omega, by omega⟩ dX0_residue_70 dX0_residue_71 (fun h70 => ?_) (fun h70 => ?_)
          · refine j_lload_n hJ dX0_residue_79 rfl ?_
            refine j_l2w hJ dX0_residue_80 ?_
            exact j_iret hJ (Nat.le_of_ble_eq_true rfl) (by rw [hy]; exact ⟨by first | rw [fin1 (by omega), Int.emod_eq_of_lt b1 (by omega)] | rw [fin2 (by omega) (by omega), Int.emod_eq_of_lt b1 (by omega)] | rw [fin3 (by omega) (by omega), Int.emod_eq_of_lt (by omega) (by omega)], rfl, hI⟩) dX0_residue_81
          · refine j_iload_n hJ dX0_residue_74 rfl ?_
            refine j_i2l hJ ⟨by omega, by omega⟩ dX0_residue_75 ?_
            refine j_lload_n hJ dX0_residue_76 rfl ?_
            refine j_lsub hJ dX0_residue_77 ?_
            refine j_lstore_n hJ (by decide) dX0_residue_78 ?_
            refine j_lload_n hJ dX0_residue_79 rfl ?_
            refine j_l2w hJ dX0_residue_80 ?_
            exact j_iret hJ (Nat.le_of_ble_eq_true rfl) (by rw [hy]; exact ⟨by first | rw [fin1 (by omega), Int.emod_eq_of_lt b1 (by omega)] | rw [fin2 (by omega) (by omega), Int.emod_eq_of_lt b1 (by omega)] | rw [fin3 (by omega) (by omega), Int.emod_eq_of_lt (by omega) (by omega)], rfl, hI⟩) dX0_residue_81
      · omega
    | succ n ih =>
      intro hn
      have q1 := hd n (by omega)
      have e1 : (((n + 1 : Nat) : Int) - 1).toNat = n := by omega
      have b1 := Int.emod_nonneg (vs 4294967296 (Z (r.toNat + 5)) 512 / 4294967296 ^ (n + 1)) (show m ≠ 0 by omega)
      have b2 := Int.emod_lt_of_pos (vs 4294967296 (Z (r.toNat + 5)) 512 / 4294967296 ^ (n + 1)) (show 0 < m by omega)
      have dg := vs_digit (B := 4294967296) (by decide) (show n < 512 by omega) hd
      have stp : (vs 4294967296 (Z (r.toNat + 5)) 512 / 4294967296 ^ (n + 1) % m * 4294967296 + Z (r.toNat + 5) n) % m = vs 4294967296 (Z (r.toNat + 5)) 512 / 4294967296 ^ n % m := by
        have e2 : vs 4294967296 (Z (r.toNat + 5)) 512 / 4294967296 ^ n = vs 4294967296 (Z (r.toNat + 5)) 512 / 4294967296 ^ (n + 1) * 4294967296 + Z (r.toNat + 5) n := by
          rw [pw_s, ← Int.ediv_ediv_of_nonneg (Int.le_of_lt (pw_pos (by decide) n))]
          omega
        rw [e2, Int.add_emod, Int.mul_emod, Int.emod_emod_of_dvd _ (Int.dvd_refl m), ← Int.mul_emod, ← Int.add_emod]
      generalize vs 4294967296 (Z (r.toNat + 5)) 512 / 4294967296 ^ (n + 1) % m = y at b1 b2 stp ⊢
      refine j_iload hJ dX0_residue_31 rfl ?_
      refine j_if_lt (tgt := 59) hJ (by decide) ⟨by omega, by omega⟩ dX0_residue_33 (fun h33 => ?_) (fun h33 => ?_)
      · omega
      · refine j_lload_n hJ dX0_residue_36 rfl ?_
        refine j_aload_n hJ dX0_residue_37 rfl ?_
        refine x_words hJ hin (by decide +kernel) dX0_residue_38 ?_
        refine j_iload_n hJ dX0_residue_41 rfl ?_
        refine x_row hJ ⟨by omega, by omega⟩ dX0_residue_42 ?_
        refine j_iload hJ dX0_residue_43 rfl ?_
        refine x_ald_w hJ (by omega) ⟨by omega, by omega⟩ dX0_residue_45 ?_
        rw [e1]
        refine j_callS hJ (kX0_pairOf l D _ _ ⟨by omega, by omega⟩) rfl gX0_residue_X0_pairOf rfl hsX0_pairOf rfl ⟨Nat.le_of_ble_eq_true rfl, Nat.le_of_ble_eq_true rfl⟩ (Nat.le_of_ble_eq_true rfl) (Nat.le_of_ble_eq_true rfl) dX0_residue_46 (fun _ h => False.elim h) (fun r46 hp46 => ?_)
        subst hp46
        refine j_iload_n hJ dX0_residue_49 rfl ?_
        refine j_i2l hJ ⟨by omega, by omega⟩ dX0_residue_50 ?_
        refine j_lrem hJ (by omega) ⟨by omega, by omega⟩ ⟨by omega, by omega⟩ (by omega) dX0_residue_51 ?_
        refine j_lstore_n hJ (by decide) dX0_residue_52 ?_
        refine j_iinc hJ (by decide) dX0_residue_53 rfl ?_
        refine j_goto (tgt := 31) hJ (by decide) dX0_residue_56 ?_
        rw [stp]
        exact j_re hJ (ih (by omega)) ⟨rfl, rfl, rfl, rfl, by show some (Value.int (iZ (((n + 1 : Nat) : Int) - 1 + -1))) = _; rw [show ((n + 1 : Nat) : Int) - 1 + -1 = (n : Int) - 1 by omega], trivial⟩
  refine j_iload_n hJ dX0_residue_0 rfl ?_
  refine j_callS hJ (kX0_checkRegister l D hl0 _ ⟨by omega, by omega⟩) rfl gX0_residue_X0_checkRegister rfl hsX0_checkRegister rfl ⟨Nat.le_of_ble_eq_true rfl, Nat.le_of_ble_eq_true rfl⟩ (Nat.le_of_ble_eq_true rfl) (Nat.le_of_ble_eq_true rfl) dX0_residue_1 (fun E h => ⟨hI, Or.inl ⟨by rw [oRes_n h.2], h.1⟩⟩) (fun r1 hp1 => ?_)
  obtain ⟨rfl, hr1⟩ := hp1
  refine j_iload_n hJ dX0_residue_4 rfl ?_
  refine j_iconst hJ dX0_residue_5 ?_
  refine j_icmp_ge (tgt := 19) hJ (by decide) ⟨by omega, by omega⟩ ⟨by omega, by omega⟩ dX0_residue_6 (fun h6 => ?_) (fun h6 => ?_)
  · refine j_lconst (z := 0) hJ (by decide) dX0_residue_19 ?_
    refine j_lstore_n hJ (by decide) dX0_residue_20 ?_
    refine j_aload_n hJ dX0_residue_21 rfl ?_
    refine x_counts hJ hin (by decide +kernel) dX0_residue_22 ?_
    refine j_iload_n hJ dX0_residue_25 rfl ?_
    refine x_ald_c hJ ⟨by omega, by omega⟩ dX0_residue_26 ?_
    rw [(hI.2 r.toNat (by omega)).2.2.2]
    refine j_iconst hJ dX0_residue_27 ?_
    refine j_isub hJ dX0_residue_28 ?_
    refine j_istore hJ (by decide) dX0_residue_29 ?_
    have hd := (hI.2 r.toNat (by omega)).1
    have h9 := loop hr1 (by omega) (lenr (Z (r.toNat + 5)) 512) (lenr_le _ _)
    rw [Int.ediv_eq_zero_of_lt (vs_nonneg (by decide) hd) (lenr_lt (by decide) hd), Int.zero_emod] at h9
    exact j_re hJ h9 ⟨rfl, rfl, rfl, rfl, rfl, trivial⟩
  · exact x_throw_iae (text := "the modulus is below 1") hJ hl0 (by decide +kernel) (by decide +kernel) (by decide +kernel) (by decide +kernel) dX0_residue_9 dX0_residue_12 dX0_residue_13 dX0_residue_15 dX0_residue_18 (Nat.le_of_ble_eq_true rfl) (Nat.le_of_ble_eq_true rfl) (Nat.le_of_ble_eq_true rfl) (⟨hI, Or.inr ⟨by rw [oRes_y hr1, if_pos (by omega)], rfl⟩⟩)
end X5
