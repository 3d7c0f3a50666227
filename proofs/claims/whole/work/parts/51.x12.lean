def st5 (Z : ZZ) (h d : Nat → Int) : ZZ := zrw (zrw Z 3 514 h) 4 513 d
theorem st5_h (Z : ZZ) (h d f : Nat → Int) : zrw (st5 Z h d) 3 514 f = st5 Z f d := by
  unfold st5; rw [zrw_comm (j := 4) (by decide), zrw_zrw (Nat.le_refl _)]
theorem st5_hu (Z : ZZ) (h d : Nat → Int) {i : Nat} {v : Int} (hi : i < 514) : zup (st5 Z h d) 3 i v = st5 Z (fset h i v) d := by
  unfold st5; rw [zup_zrw (by decide), zrw_upd hi]
theorem st5_du (Z : ZZ) (h d : Nat → Int) {i : Nat} {v : Int} (hi : i < 513) : zup (st5 Z h d) 4 i v = st5 Z h (fset d i v) := zrw_upd hi
theorem st5_3 {Z : ZZ} {h d : Nat → Int} {i : Nat} (hi : i < 514) : st5 Z h d 3 i = h i := by unfold st5; rw [zrw_off (by decide), zrw_in hi]
theorem st5_4 {Z : ZZ} {h d : Nat → Int} {i : Nat} (hi : i < 513) : st5 Z h d 4 i = d i := zrw_in hi
theorem st5_id (Z : ZZ) : st5 Z (Z 3) (Z 4) = Z := by unfold st5; rw [zrw_id (fun _ _ => rfl), zrw_id (fun _ _ => rfl)]
theorem st5_off {Z : ZZ} {h d : Nat → Int} {j : Nat} (h3 : j ≠ 3) (h4 : j ≠ 4) : st5 Z h d j = Z j := by unfold st5; rw [zrw_off h4, zrw_off h3]
theorem st5_st5 (Z : ZZ) (h d f e : Nat → Int) : st5 (st5 Z h d) f e = st5 Z f e := by
  show zrw (zrw (st5 Z h d) 3 514 f) 4 513 e = _
  rw [st5_h]; exact zrw_zrw (Nat.le_refl _)
theorem fset_fset (f : Nat → Int) (i : Nat) (v w : Int) : fset (fset f i v) i w = fset f i w := by
  funext k
  unfold fset
  by_cases h : k = i
  · rw [if_pos h, if_pos h]
  · rw [if_neg h, if_neg h, if_neg h]
section X12
variable (l : Launch) (D : va_G) (cI cO : ClassId) (a : Nat → Nat) (Z : ZZ)
set_option maxRecDepth 20000 in
theorem kX0_takeFirstRootDigit (c : Nat) (hc : 1 ≤ c ∧ c ≤ 257) (d3 : dgs 4294967296 514 (Z 3)) (hP : Z 3 (2 * c - 1) * 4294967296 + Z 3 (2 * c - 2) < 4611686018427387904) : Ct l D (tX cI cO) (wX cI cO a) yX0_takeFirstRootDigit wsX0_takeFirstRootDigit 1 0 26 [.ref (a 0), .int (iZ (c : Int))] Z (fun v Z' => v = none ∧ ∃ r : Int, 0 ≤ r ∧ r < 2147483648 ∧ r * r ≤ Z 3 (2 * c - 1) * 4294967296 + Z 3 (2 * c - 2) ∧ Z 3 (2 * c - 1) * 4294967296 + Z 3 (2 * c - 2) < (r + 1) * (r + 1) ∧ Z' = st5 Z (fset (fset (Z 3) (2 * c - 1) 0) (2 * c - 2) (Z 3 (2 * c - 1) * 4294967296 + Z 3 (2 * c - 2) - r * r)) (fset (Z 4) (c - 1) (2 * r))) nX := by
  refine Ct.of (cc := cX0_takeFirstRootDigit) (maxL := 7) (ret := none) rfl (by decide) rfl (Nat.le_of_ble_eq_true rfl) (fun J hJ => ?_)
  have hin : ∀ w ∈ u_ws RX0 TX0 6, w ∈ wsX0_takeFirstRootDigit := by decide +kernel
  have q1 := d3 (2 * c - 1) (by omega)
  have q2 := d3 (2 * c - 2) (by omega)
  have e1 : (2 * ((c : Nat) : Int) - 1).toNat = 2 * c - 1 := by omega
  have e2 : (2 * ((c : Nat) : Int) - 1 - 1).toNat = 2 * c - 2 := by omega
  have e3 : (((c : Nat) : Int) - 1).toNat = c - 1 := by omega
  have hid := st5_id Z
  have go : J (st5 Z (Z 3) (Z 4)) 0 0 [(0, .ref (a 0)), (1, .int (iZ (c : Int)))] [] := by
    have r1 : st5 Z (Z 3) (Z 4) 3 = Z 3 := by rw [hid]
    generalize hPe : Z 3 (2 * c - 1) * 4294967296 + Z 3 (2 * c - 2) = P at hP hJ
    have hP0 : 0 ≤ P := by omega
    refine j_iconst hJ dX0_takeFirstRootDigit_0 ?_
    refine j_iload_n hJ dX0_takeFirstRootDigit_1 rfl ?_
    refine j_imul hJ dX0_takeFirstRootDigit_2 ?_
    refine j_iconst hJ dX0_takeFirstRootDigit_3 ?_
    refine j_isub hJ dX0_takeFirstRootDigit_4 ?_
    refine j_istore_n hJ (by decide) dX0_takeFirstRootDigit_5 ?_
    refine j_aload_n hJ dX0_takeFirstRootDigit_6 rfl ?_
    refine x_left hJ hin (by decide +kernel) dX0_takeFirstRootDigit_7 ?_
    refine j_iload_n hJ dX0_takeFirstRootDigit_10 rfl ?_
    refine x_ald_l hJ ⟨by omega, by omega⟩ dX0_takeFirstRootDigit_11 ?_
    rw [e1, r1]
    refine j_i2l hJ ⟨by omega, by omega⟩ dX0_takeFirstRootDigit_12 ?_
    refine j_aload_n hJ dX0_takeFirstRootDigit_13 rfl ?_
    refine x_left hJ hin (by decide +kernel) dX0_takeFirstRootDigit_14 ?_
    refine j_iload_n hJ dX0_takeFirstRootDigit_17 rfl ?_
    refine j_iconst hJ dX0_takeFirstRootDigit_18 ?_
    refine j_isub hJ dX0_takeFirstRootDigit_19 ?_
    refine x_ald_l hJ ⟨by omega, by omega⟩ dX0_takeFirstRootDigit_20 ?_
    rw [e2, r1]
    refine j_callS hJ (kX0_pairOf l D _ _ ⟨by omega, by omega⟩) rfl gX0_takeFirstRootDigit_X0_pairOf rfl hsX0_pairOf rfl ⟨Nat.le_of_ble_eq_true rfl, Nat.le_of_ble_eq_true rfl⟩ (Nat.le_of_ble_eq_true rfl) (Nat.le_of_ble_eq_true rfl) dX0_takeFirstRootDigit_21 (fun _ h => False.elim h) (fun r21 hp21 => ?_)
    subst hp21
    rw [hPe]
    refine j_lstore_n hJ (by decide) dX0_takeFirstRootDigit_24 ?_
    refine j_lload_n hJ dX0_takeFirstRootDigit_25 rfl ?_
    refine j_callS hJ (kX0_rootOfPair l D P ⟨hP0, hP⟩) rfl gX0_takeFirstRootDigit_X0_rootOfPair rfl hsX0_rootOfPair rfl ⟨Nat.le_of_ble_eq_true rfl, Nat.le_of_ble_eq_true rfl⟩ (Nat.le_of_ble_eq_true rfl) (Nat.le_of_ble_eq_true rfl) dX0_takeFirstRootDigit_26 (fun _ h => False.elim h) (fun r26 hp26 => ?_)
    obtain ⟨r, rfl, hr0, hr1, hr2, hr3⟩ := hp26
    have hrem : 0 ≤ P - r * r ∧ P - r * r < 4294967296 := (by have e : (r + 1) * (r + 1) = r * r + 2 * r + 1 := (by grind); omega)
    refine j_lstore hJ (by decide) dX0_takeFirstRootDigit_29 ?_
    refine j_aload_n hJ dX0_takeFirstRootDigit_31 rfl ?_
    refine x_left hJ hin (by decide +kernel) dX0_takeFirstRootDigit_32 ?_
    refine j_iload_n hJ dX0_takeFirstRootDigit_35 rfl ?_
    refine j_iconst hJ dX0_takeFirstRootDigit_36 ?_
    refine x_ast_l hJ ⟨by omega, by omega⟩ dX0_takeFirstRootDigit_37 ?_
    rw [e1, st5_hu _ _ _ (by omega)]
    refine j_aload_n hJ dX0_takeFirstRootDigit_38 rfl ?_
    refine x_left hJ hin (by decide +kernel) dX0_takeFirstRootDigit_39 ?_
    refine j_iload_n hJ dX0_takeFirstRootDigit_42 rfl ?_
    refine j_iconst hJ dX0_takeFirstRootDigit_43 ?_
    refine j_isub hJ dX0_takeFirstRootDigit_44 ?_
    refine j_lload_n hJ dX0_takeFirstRootDigit_45 rfl ?_
    refine j_lload hJ dX0_takeFirstRootDigit_46 rfl ?_
    refine j_lload hJ dX0_takeFirstRootDigit_48 rfl ?_
    refine j_lmul hJ dX0_takeFirstRootDigit_50 ?_
    refine j_lsub hJ dX0_takeFirstRootDigit_51 ?_
    refine j_l2w hJ dX0_takeFirstRootDigit_52 ?_
    refine x_ast_l hJ ⟨by omega, by omega⟩ dX0_takeFirstRootDigit_53 ?_
    rw [e2, st5_hu _ _ _ (by omega), Int.emod_eq_of_lt hrem.1 hrem.2]
    refine j_aload_n hJ dX0_takeFirstRootDigit_54 rfl ?_
    refine x_divisor hJ hin (by decide +kernel) dX0_takeFirstRootDigit_55 ?_
    refine j_iload_n hJ dX0_takeFirstRootDigit_58 rfl ?_
    refine j_iconst hJ dX0_takeFirstRootDigit_59 ?_
    refine j_isub hJ dX0_takeFirstRootDigit_60 ?_
    refine j_ldc2 (v := 2) (z := 2) hJ (by decide) (by decide +kernel) dX0_takeFirstRootDigit_61 ?_
    refine j_lload hJ dX0_takeFirstRootDigit_64 rfl ?_
    refine j_lmul hJ dX0_takeFirstRootDigit_66 ?_
    refine j_l2w hJ dX0_takeFirstRootDigit_67 ?_
    refine x_ast_d hJ ⟨by omega, by omega⟩ dX0_takeFirstRootDigit_68 ?_
    exact j_vret hJ (Nat.le_of_ble_eq_true rfl) (⟨rfl, r, hr0, hr1, hr2, hr3, by rw [e3, st5_du _ _ _ (by omega), Int.emod_eq_of_lt (by omega) (by omega)]⟩) dX0_takeFirstRootDigit_69
  rw [hid] at go
  exact go
set_option maxRecDepth 20000 in
theorem kX0_takeRootDigit (p m : Nat) (R : Int) (hm : p + m + 2 ≤ 257) (d3 : dgs 4294967296 514 (Z 3)) (d4 : dgs 4294967296 513 (Z 4)) (hT : vs 4294967296 (fun i => Z 4 (p + 1 + i)) (m + 1) = 2 * R) (hw : 2147483648 ≤ Z 4 (p + 1 + m)) (hX : vs 4294967296 (fun i => Z 3 (2 * p + i)) (m + 3) < (2 * R + 1) * (4294967296 * 4294967296)) :
    Ct l D (tX cI cO) (wX cI cO a) yX0_takeRootDigit wsX0_takeRootDigit 2 0 54 [.ref (a 0), .int (iZ (p : Int)), .int (iZ ((p + m + 2 : Nat) : Int))] Z (fun v Z' => v = none ∧ ∃ (h dd : Nat → Int) (d : Int), Z' = st5 Z h dd ∧ dgs 4294967296 514 h ∧ dgs 4294967296 513 dd ∧ (∀ i, i < 514 → (i < 2 * p ∨ 2 * p + (m + 2) < i) → h i = Z 3 i) ∧ (∀ i, i < 513 → p + 1 < i → dd i = Z 4 i) ∧ 0 ≤ d ∧ d < 4294967296 ∧ vs 4294967296 (fun i => h (2 * p + i)) (m + 3) = vs 4294967296 (fun i => Z 3 (2 * p + i)) (m + 3) - d * (2 * R * 4294967296 + d) ∧ vs 4294967296 (fun i => h (2 * p + i)) (m + 3) < 2 * R * 4294967296 + 2 * d + 1 ∧ vs 4294967296 (fun i => dd (p + i)) (m + 2) = 2 * (R * 4294967296 + d)) nX := by
  refine Ct.of (cc := cX0_takeRootDigit) (maxL := 9) (ret := none) rfl (by decide) rfl (Nat.le_of_ble_eq_true rfl) (fun J hJ => ?_)
  have hin : ∀ w ∈ u_ws RX0 TX0 6, w ∈ wsX0_takeRootDigit := by decide +kernel
  have dwin : ∀ h : Nat → Int, dgs 4294967296 514 h → dgs 4294967296 (m + 3) (fun i => h (2 * p + i)) := fun h hd i hi => hd (2 * p + i) (by omega)
  have ddv : dgs 4294967296 (m + 1) (fun i => Z 4 (p + 1 + i)) := fun i hi => d4 (p + 1 + i) (by omega)
  have X0 := vs_nonneg (B := 4294967296) (by decide) (dwin _ d3)
  have R0 : 0 ≤ R := by have := vs_nonneg (B := 4294967296) (by decide) ddv; omega
  have rg := fun z hz c h1 h2 h3 h4 => root_guess (m := m) (x := fun i => Z 3 (2 * p + i)) (d := fun i => Z 4 (p + 1 + i)) (R := R) (dwin _ d3) ddv hT hw (z := z) hz (c := c) h1 h2 h3 h4
  have T1 : 2 * R = Z 4 (p + 1) + 4294967296 * vs 4294967296 (fun i => Z 4 (p + 1 + (1 + i))) m := by rw [← hT, vs_1]
  have q4 := d4 (p + 1) (by omega)
  have dvw : ∀ z : Int, vs 4294967296 (fun i => fset (Z 4) p z (p + i)) (m + 2) = 2 * R * 4294967296 + z := fun z => by
    rw [vs_1, vs_congr (g := fun i => Z 4 (p + 1 + i)) (fun i hi => by show fset (Z 4) p z (p + (1 + i)) = _; rw [fset_ne (by omega)]; congr 1; omega), hT]
    show fset (Z 4) p z (p + 0) + _ = _
    rw [Nat.add_zero, fset_eq]; omega
  generalize hXe : vs 4294967296 (fun i => Z 3 (2 * p + i)) (m + 3) = X at X0 rg hX hJ
  -- the true word of the root
  obtain ⟨c, c0, c1, c2, c3⟩ : ∃ c : Int, 0 ≤ c ∧ c ≤ 4294967295 ∧ c * (2 * R * 4294967296 + c) ≤ X ∧ X < (c + 1) * (2 * R * 4294967296 + (c + 1)) := by
    have hRB : 0 ≤ R * 4294967296 * (R * 4294967296) := Int.mul_nonneg (by omega) (by omega)
    obtain ⟨r, r0, r1, r2⟩ := rt_ex (X + R * 4294967296 * (R * 4294967296)) (by omega)
    have lo : R * 4294967296 ≤ r := by
      rcases Int.lt_or_le r (R * 4294967296) with q | q
      · have := Int.mul_le_mul (show r + 1 ≤ R * 4294967296 from q) (show r + 1 ≤ R * 4294967296 from q) (by omega) (by omega)
        omega
      · exact q
    have hi : r < R * 4294967296 + 4294967296 := by
      rcases Int.lt_or_le r (R * 4294967296 + 4294967296) with q | q
      · exact q
      · have e1 := Int.mul_le_mul q q (by omega) r0
        have e2 : (R * 4294967296 + 4294967296) * (R * 4294967296 + 4294967296) = R * 4294967296 * (R * 4294967296) + (2 * R + 1) * (4294967296 * 4294967296) := by grind
        omega
    refine ⟨r - R * 4294967296, by omega, by omega, ?_, ?_⟩
    · have e : (r - R * 4294967296) * (2 * R * 4294967296 + (r - R * 4294967296)) = r * r - R * 4294967296 * (R * 4294967296) := by grind
      omega
    · have e : (r - R * 4294967296 + 1) * (2 * R * 4294967296 + (r - R * 4294967296 + 1)) = (r + 1) * (r + 1) - R * 4294967296 * (R * 4294967296) := by grind
      omega
  clear hX
  have mono : ∀ y : Int, c + 1 ≤ y → X < y * (2 * R * 4294967296 + y) := fun y hy => by
    have := Int.mul_le_mul hy (show 2 * R * 4294967296 + (c + 1) ≤ 2 * R * 4294967296 + y by omega) (by omega) (by omega)
    omega
  have e2p : 2 * ((p : Nat) : Int) = ((2 * p : Nat) : Int) := by omega
  have e3 : ((p : Nat) : Int).toNat = p := by omega
  have e4 : (((p : Nat) : Int) + 1).toNat = p + 1 := by omega
  have fin : ∀ (h : Nat → Int), dgs 4294967296 514 h → (∀ i, i < 514 → (i < 2 * p ∨ 2 * p + (m + 2) < i) → h i = Z 3 i) → vs 4294967296 (fun i => h (2 * p + i)) (m + 3) = X - c * (2 * R * 4294967296 + c) → J (st5 Z h (fset (Z 4) p c)) 0 90 [(0, .ref (a 0)), (1, .int (iZ (p : Int))), (5, .long (lZ c))] [] := by
    intro h hd hi hv
    have hz4 : fset (fset (Z 4) p c) p (c * ((2 ^ 1 : Nat) : Int) % 4294967296) (p + 1) = Z 4 (p + 1) := by rw [fset_ne (by omega), fset_ne (by omega)]
    have hsh : c % 18446744073709551616 / ((2 ^ 31 : Nat) : Int) % 4294967296 = c / 2147483648 := by omega
    have hcd : 0 ≤ c / 2147483648 ∧ c / 2147483648 < 2 := by omega
    have hev : Z 4 (p + 1) = Z 4 (p + 1) / 2 * ((2 ^ 1 : Nat) : Int) := by omega
    have hor : iZ (Z 4 (p + 1)) ||| iZ (c / 2147483648) = iZ (Z 4 (p + 1) + c / 2147483648) := by
      have := iZ_or (a := Z 4 (p + 1) / 2) (b := c / 2147483648) (n := 1) (by decide) hcd
      rw [← hev] at this
      exact this
    have last : vs 4294967296 (fun i => fset (fset (fset (Z 4) p c) p (c * ((2 ^ 1 : Nat) : Int) % 4294967296)) (p + 1) (Z 4 (p + 1) + c / 2147483648) (p + i)) (m + 2) = 2 * (R * 4294967296 + c) := by
      rw [vs_1, vs_1, vs_congr (g := fun i => Z 4 (p + 1 + (1 + i))) (fun i hi => by
        show fset (fset (fset (Z 4) p c) p (c * ((2 ^ 1 : Nat) : Int) % 4294967296)) (p + 1) (Z 4 (p + 1) + c / 2147483648) (p + (1 + (1 + i))) = _
        rw [fset_ne (by omega), fset_ne (by omega), fset_ne (by omega)]; congr 1; omega)]
      show fset (fset (fset (Z 4) p c) p (c * ((2 ^ 1 : Nat) : Int) % 4294967296)) (p + 1) (Z 4 (p + 1) + c / 2147483648) p + _ * (fset (fset (fset (Z 4) p c) p (c * ((2 ^ 1 : Nat) : Int) % 4294967296)) (p + 1) (Z 4 (p + 1) + c / 2147483648) (p + 1) + _) = _
      rw [fset_eq, fset_ne (by omega), fset_eq]
      generalize vs 4294967296 (fun i => Z 4 (p + 1 + (1 + i))) m = V at T1
      clear hor hev hsh hz4 mono dvw rg hJ
      omega
    refine j_aload_n hJ dX0_takeRootDigit_90 rfl ?_
    refine x_divisor hJ hin (by decide +kernel) dX0_takeRootDigit_91 ?_
    refine j_iload_n hJ dX0_takeRootDigit_94 rfl ?_
    refine j_lload hJ dX0_takeRootDigit_95 rfl ?_
    refine j_iconst hJ dX0_takeRootDigit_97 ?_
    refine j_lshl (n := 1) hJ (by decide) dX0_takeRootDigit_98 ?_
    refine j_l2w hJ dX0_takeRootDigit_99 ?_
    refine x_ast_d hJ ⟨by omega, by omega⟩ dX0_takeRootDigit_100 ?_
    rw [e3, st5_du _ _ _ (by omega)]
    refine j_aload_n hJ dX0_takeRootDigit_101 rfl ?_
    refine x_divisor hJ hin (by decide +kernel) dX0_takeRootDigit_102 ?_
    refine j_iload_n hJ dX0_takeRootDigit_105 rfl ?_
    refine j_iconst hJ dX0_takeRootDigit_106 ?_
    refine j_iadd hJ dX0_takeRootDigit_107 ?_
    refine j_dup2 hJ rfl rfl dX0_takeRootDigit_108 ?_
    refine x_ald_d hJ ⟨by omega, by omega⟩ dX0_takeRootDigit_109 ?_
    rw [e4, st5_4 (by omega), hz4]
    refine j_lload hJ dX0_takeRootDigit_110 rfl ?_
    refine j_bipush hJ (by decide) dX0_takeRootDigit_112 ?_
    refine j_lushr (n := 31) hJ (by decide) dX0_takeRootDigit_114 ?_
    refine j_l2w hJ dX0_takeRootDigit_115 ?_
    rw [hsh]
    refine j_ior hJ hor dX0_takeRootDigit_116 ?_
    refine x_ast_d hJ ⟨by omega, by omega⟩ dX0_takeRootDigit_117 ?_
    rw [e4, st5_du _ _ _ (by omega)]
    exact j_vret hJ (Nat.le_of_ble_eq_true rfl) (⟨rfl, h, _, c, rfl, hd, dgs_upd (dgs_upd (dgs_upd d4 ⟨c0, by omega⟩) ⟨by omega, by omega⟩) ⟨by omega, by omega⟩, hi, (fun i i1 i2 => by rw [fset_ne (by omega), fset_ne (by omega), fset_ne (by omega)]), c0, by omega, hv, by rw [hv]; have e : (c + 1) * (2 * R * 4294967296 + (c + 1)) = c * (2 * R * 4294967296 + c) + 2 * R * 4294967296 + 2 * c + 1 := (by grind); omega, last⟩) dX0_takeRootDigit_118
  have loop : ∀ (e : Nat) (o : Nat) (b : Int) (h : Nat → Int), o + e ≤ 3 → (b = 0 ∨ b = 1) → c + e ≤ 4294967295 → dgs 4294967296 514 h → (∀ i, i < 514 → (i < 2 * p ∨ 2 * p + (m + 2) < i) → h i = Z 3 i) → vs 4294967296 (fun i => h (2 * p + i)) (m + 3) = X - (c + e) * (2 * R * 4294967296 + (c + e)) + b * 4294967296 ^ (m + 3) → J (st5 Z h (fset (Z 4) p (c + e))) 0 46 [(0, .ref (a 0)), (1, .int (iZ (p : Int))), (3, .int (iZ ((2 * p : Nat) : Int))), (4, .int (iZ ((m + 2 : Nat) : Int))), (5, .long (lZ (c + e))), (7, .int (iZ b)), (8, .int (iZ (o : Int)))] [] := by
    intro e
    induction e with
    | zero =>
      intro o b h ho hb hq2 hd hi hv
      rw [show c + ((0 : Nat) : Int) = c by omega] at hv ⊢
      have w1 := vs_lt (B := 4294967296) (by decide) (dwin h hd)
      have hb0 : b = 0 := by
        rcases hb with q | q
        · exact q
        · rw [q] at hv; omega
      subst hb0
      refine j_iload hJ dX0_takeRootDigit_46 rfl ?_
      refine j_if_eq (tgt := 90) hJ (by decide) ⟨by omega, by omega⟩ dX0_takeRootDigit_48 (fun h48 => ?_) (fun h48 => ?_)
      · exact j_re hJ (fin h hd hi (by omega)) ⟨rfl, rfl, rfl, trivial⟩
      · omega
    | succ e ih =>
      intro o b h ho hb hq2 hd hi hv
      have w0 := vs_nonneg (B := 4294967296) (by decide) (dwin h hd)
      have hneg := mono (c + ((e + 1 : Nat) : Int)) (by omega)
      have hb1 : b = 1 := by
        rcases hb with q | q
        · rw [q] at hv; omega
        · exact q
      subst hb1
      have z3 : dgs 4294967296 514 (st5 Z h (fset (Z 4) p (c + ((e + 1 : Nat) : Int))) 3) := fun i hi => by rw [st5_3 hi]; exact hd i hi
      have z4 : dgs 4294967296 513 (st5 Z h (fset (Z 4) p (c + ((e + 1 : Nat) : Int))) 4) := fun i hi => by rw [st5_4 hi]; exact dgs_upd d4 ⟨by omega, by omega⟩ i hi
      have w3 : vs 4294967296 (fun i => st5 Z h (fset (Z 4) p (c + ((e + 1 : Nat) : Int))) 3 (2 * p + i)) (m + 2 + 1) = vs 4294967296 (fun i => h (2 * p + i)) (m + 3) := vs_congr (fun i hi => st5_3 (by omega))
      have w4 : vs 4294967296 (fun i => st5 Z h (fset (Z 4) p (c + ((e + 1 : Nat) : Int))) 4 (p + i)) (m + 2) = 2 * R * 4294967296 + (c + ((e + 1 : Nat) : Int)) := by rw [← dvw]; exact vs_congr (fun i hi => st5_4 (by omega))
      have hce : c + ((e + 1 : Nat) : Int) - 1 = c + (e : Int) := by omega
      refine j_iload hJ dX0_takeRootDigit_46 rfl ?_
      refine j_if_eq (tgt := 90) hJ (by decide) ⟨by omega, by omega⟩ dX0_takeRootDigit_48 (fun h => absurd h (by decide)) (fun _ => ?_)
      refine j_iload hJ dX0_takeRootDigit_51 rfl ?_
      refine j_iconst hJ dX0_takeRootDigit_53 ?_
      refine j_icmp_ge (tgt := 90) hJ (by decide) ⟨by omega, by omega⟩ ⟨by omega, by omega⟩ dX0_takeRootDigit_54 (fun h54 => ?_) (fun h54 => ?_)
      · omega
      · refine j_lload hJ dX0_takeRootDigit_57 rfl ?_
        refine j_lconst (z := 1) hJ (by decide) dX0_takeRootDigit_59 ?_
        refine j_lsub hJ dX0_takeRootDigit_60 ?_
        rw [hce]
        refine j_lstore hJ (by decide) dX0_takeRootDigit_61 ?_
        refine j_aload_n hJ dX0_takeRootDigit_63 rfl ?_
        refine j_iload_n hJ dX0_takeRootDigit_64 rfl ?_
        refine j_iload_n hJ dX0_takeRootDigit_65 rfl ?_
        refine j_iload hJ dX0_takeRootDigit_66 rfl ?_
        refine j_lload hJ dX0_takeRootDigit_68 rfl ?_
        refine j_callV hJ (kX0_giveBack l D cI cO a _ (2 * p) p (m + 2) (c + (e : Int)) (by omega) (by omega) ⟨by omega, by omega⟩ (by omega) z3 z4) rfl gX0_takeRootDigit_X0_giveBack rfl hdX0_giveBack rfl ⟨Nat.le_of_ble_eq_true rfl, Nat.le_of_ble_eq_true rfl⟩ (Nat.le_of_ble_eq_true rfl) (Nat.le_of_ble_eq_true rfl) rfl rfl dX0_takeRootDigit_70 (fun _ _ h => False.elim h) (fun r70 Z70 hp70 => ?_)
        obtain ⟨h4, b4, rfl, hb4, rfl, hd4, hi4, hv4⟩ := hp70
        rw [st5_h]
        rw [w3, w4, show m + 2 + 1 = m + 3 from rfl] at hv4
        refine j_istore hJ (by decide) dX0_takeRootDigit_73 ?_
        refine j_aload_n hJ dX0_takeRootDigit_75 rfl ?_
        refine x_divisor hJ hin (by decide +kernel) dX0_takeRootDigit_76 ?_
        refine j_iload_n hJ dX0_takeRootDigit_79 rfl ?_
        refine j_lload hJ dX0_takeRootDigit_80 rfl ?_
        refine j_l2w hJ dX0_takeRootDigit_82 ?_
        refine x_ast_d hJ ⟨by omega, by omega⟩ dX0_takeRootDigit_83 ?_
        rw [e3, st5_du _ _ _ (by omega), Int.emod_eq_of_lt (by omega) (by omega), fset_fset]
        refine j_iinc hJ (by decide) dX0_takeRootDigit_84 rfl ?_
        refine j_goto (tgt := 46) hJ (by decide) dX0_takeRootDigit_87 ?_
        refine j_re hJ (ih (o + 1) (1 - b4) h4 (by omega) (by omega) (by omega) hd4 (fun i i1 i2 => by rw [hi4 i i1 i2, st5_3 i1]; exact hi i i1 i2) ?_) ⟨rfl, rfl, rfl, rfl, rfl, rfl, rfl, trivial⟩
        have h7 : (c + ((e + 1 : Nat) : Int)) * (2 * R * 4294967296 + (c + ((e + 1 : Nat) : Int))) = (c + (e : Int)) * (2 * R * 4294967296 + (c + (e : Int))) + (2 * R * 4294967296 + (c + ((e + 1 : Nat) : Int))) + (c + (e : Int)) := (by rw [show c + ((e + 1 : Nat) : Int) = c + (e : Int) + 1 by omega]; grind)
        rw [hv, h7] at hv4
        have h8 : (1 - b4) * 4294967296 ^ (m + 3) = 4294967296 ^ (m + 3) - b4 * 4294967296 ^ (m + 3) := (by rw [Int.sub_mul, Int.one_mul])
        rw [h8]
        omega
  have hid := st5_id Z
  have go : J (st5 Z (Z 3) (Z 4)) 0 0 [(0, .ref (a 0)), (1, .int (iZ (p : Int))), (2, .int (iZ ((p + m + 2 : Nat) : Int)))] [] := by
    refine j_iconst hJ dX0_takeRootDigit_0 ?_
    refine j_iload_n hJ dX0_takeRootDigit_1 rfl ?_
    refine j_imul hJ dX0_takeRootDigit_2 ?_
    rw [e2p]
    refine j_istore_n hJ (by decide) dX0_takeRootDigit_3 ?_
    refine j_iload_n hJ dX0_takeRootDigit_4 rfl ?_
    refine j_iload_n hJ dX0_takeRootDigit_5 rfl ?_
    refine j_isub hJ dX0_takeRootDigit_6 ?_
    rw [show ((p + m + 2 : Nat) : Int) - (p : Int) = ((m + 2 : Nat) : Int) by omega]
    refine j_istore hJ (by decide) dX0_takeRootDigit_7 ?_
    refine j_aload_n hJ dX0_takeRootDigit_9 rfl ?_
    refine j_iload_n hJ dX0_takeRootDigit_10 rfl ?_
    refine j_iload hJ dX0_takeRootDigit_11 rfl ?_
    refine j_iadd hJ dX0_takeRootDigit_13 ?_
    rw [show ((2 * p : Nat) : Int) + ((m + 2 : Nat) : Int) = ((2 * p + (m + 2) : Nat) : Int) by omega]
    refine j_iload_n hJ dX0_takeRootDigit_14 rfl ?_
    refine j_iconst hJ dX0_takeRootDigit_15 ?_
    refine j_isub hJ dX0_takeRootDigit_16 ?_
    rw [show ((p + m + 2 : Nat) : Int) - 1 = ((p + 1 + m : Nat) : Int) by omega]
    refine j_callV hJ (kX0_guessDigit l D cI cO a _ (2 * p + (m + 2)) (p + 1 + m) ⟨by omega, by omega⟩ (by omega) (by rw [hid]; exact d3) (by rw [hid]; exact d4) (by rw [hid]; exact hw)) rfl gX0_takeRootDigit_X0_guessDigit rfl hdX0_guessDigit rfl ⟨Nat.le_of_ble_eq_true rfl, Nat.le_of_ble_eq_true rfl⟩ (Nat.le_of_ble_eq_true rfl) (Nat.le_of_ble_eq_true rfl) rfl rfl dX0_takeRootDigit_17 (fun _ _ h => False.elim h) (fun r17 Z17 hp17 => ?_)
    obtain ⟨⟨z, rfl, hz⟩, rfl⟩ := hp17
    rw [hid, show 2 * p + (m + 2) - 1 = 2 * p + (m + 1) by omega] at hz
    obtain ⟨k1, k2, k3, k4⟩ := rg z hz c c0 c1 c2 c3
    refine j_lstore hJ (by decide) dX0_takeRootDigit_20 ?_
    refine j_aload_n hJ dX0_takeRootDigit_22 rfl ?_
    refine x_divisor hJ hin (by decide +kernel) dX0_takeRootDigit_23 ?_
    refine j_iload_n hJ dX0_takeRootDigit_26 rfl ?_
    refine j_lload hJ dX0_takeRootDigit_27 rfl ?_
    refine j_l2w hJ dX0_takeRootDigit_29 ?_
    refine x_ast_d hJ ⟨by omega, by omega⟩ dX0_takeRootDigit_30 ?_
    rw [e3, st5_du _ _ _ (by omega), Int.emod_eq_of_lt (by omega) (by omega)]
    refine j_aload_n hJ dX0_takeRootDigit_31 rfl ?_
    refine j_iload_n hJ dX0_takeRootDigit_32 rfl ?_
    refine j_iload_n hJ dX0_takeRootDigit_33 rfl ?_
    refine j_iload hJ dX0_takeRootDigit_34 rfl ?_
    refine j_lload hJ dX0_takeRootDigit_36 rfl ?_
    refine j_callV hJ (kX0_takeMultiple l D cI cO a _ (2 * p) p (m + 2) z (by omega) (by omega) ⟨by omega, by omega⟩ (fun i hi => by rw [st5_3 hi]; exact d3 i hi) (fun i hi => by rw [st5_4 hi]; exact dgs_upd d4 ⟨by omega, by omega⟩ i hi)) rfl gX0_takeRootDigit_X0_takeMultiple rfl hdX0_takeMultiple rfl ⟨Nat.le_of_ble_eq_true rfl, Nat.le_of_ble_eq_true rfl⟩ (Nat.le_of_ble_eq_true rfl) (Nat.le_of_ble_eq_true rfl) rfl rfl dX0_takeRootDigit_38 (fun _ _ h => False.elim h) (fun r38 Z38 hp38 => ?_)
    obtain ⟨h6, b6, rfl, hb6, rfl, hd6, hi6, hv6⟩ := hp38
    rw [st5_h]
    rw [vs_congr (f := fun i => st5 Z (Z 3) (fset (Z 4) p z) 3 (2 * p + i)) (g := fun i => Z 3 (2 * p + i)) (fun i hi => st5_3 (by omega)), vs_congr (f := fun i => st5 Z (Z 3) (fset (Z 4) p z) 4 (p + i)) (g := fun i => fset (Z 4) p z (p + i)) (fun i hi => st5_4 (by omega)), dvw, show m + 2 + 1 = m + 3 from rfl, hXe] at hv6
    refine j_istore hJ (by decide) dX0_takeRootDigit_41 ?_
    refine j_re (lv' := [(0, _), (1, _), (2, _), (3, _), (4, _), (5, _), (7, _)]) hJ ?_ ⟨rfl, rfl, rfl, rfl, rfl, rfl, rfl, trivial⟩
    refine j_iconst hJ dX0_takeRootDigit_43 ?_
    refine j_istore hJ (by decide) dX0_takeRootDigit_44 ?_
    obtain ⟨e, he⟩ : ∃ e : Nat, z = c + (e : Int) := ⟨(z - c).toNat, by omega⟩
    subst he
    exact j_re hJ (loop e 0 b6 h6 (by omega) hb6 (by omega) hd6 (fun i i1 i2 => by rw [hi6 i i1 i2, st5_3 i1]) hv6) ⟨rfl, rfl, rfl, rfl, rfl, rfl, rfl, trivial⟩
  rw [hid] at go
  exact go
end X12
