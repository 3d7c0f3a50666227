section M7
variable (l : Launch) (D : va_G) (cI : ClassId) (a : Nat → Nat) (Z : ZZ)
set_option maxRecDepth 20000 in
theorem kX1_negate (g : Nat → Int) (hI : MI Z g) (r : Int) (h0 : i32 r) : Ct l D (tM cI) (wM cI a) yX1_negate wsX1_negate 1 0 20 [.ref (a 0), .int (iZ r)] Z (fun v Z' => v = none ∧ Z' 0 0 = (oNeg g r).1 ∧ MI Z' (oNeg g r).2) nX := by
  refine Ct.of (cc := cX1_negate) (maxL := 2) (ret := none) rfl (by decide) rfl (Nat.le_of_ble_eq_true rfl) (fun J hJ => ?_)
  have hin : ∀ w ∈ u_ws RX1 TX1 3, w ∈ wsX1_negate := by decide +kernel
  unfold oNeg at hJ
  have p0 := isR_spec r
  refine j_aload_n hJ dX1_negate_0 rfl ?_
  refine j_iload_n hJ dX1_negate_1 rfl ?_
  refine j_callS hJ (kX1_isRegister l D _ ⟨by omega, by omega⟩) rfl gX1_negate_X1_isRegister rfl hsX1_isRegister rfl ⟨Nat.le_of_ble_eq_true rfl, Nat.le_of_ble_eq_true rfl⟩ (Nat.le_of_ble_eq_true rfl) (Nat.le_of_ble_eq_true rfl) dX1_negate_2 (fun _ h => False.elim h) (fun r2 hp2 => ?_)
  subst hp2
  refine j_if_eq (tgt := 12) hJ (by decide) ⟨by omega, by omega⟩ dX1_negate_5 (fun h5 => ?_) (fun h5 => ?_)
  · rw [if_neg (by omega)] at hJ
    refine j_iconst hJ dX1_negate_12 ?_
    refine m_putcode hJ hin (by decide +kernel) dX1_negate_13 ?_
    refine j_aload_n hJ dX1_negate_16 rfl ?_
    refine m_code hJ hin (by decide +kernel) dX1_negate_17 ?_
    rw [zup_eq]
    refine j_if_ne (tgt := 36) hJ (by decide) ⟨by omega, by omega⟩ dX1_negate_20 (fun h20 => ?_) (fun h20 => absurd h20 (by decide))
    exact j_vret hJ (Nat.le_of_ble_eq_true rfl) (⟨rfl, by first | exact ⟨zup_eq _ _ _ _, hI.code 1⟩ | (refine ⟨by rw [zup_ne (by omega), zup_eq], ?_⟩; rw [zup_off Z 0 0 0 (j' := 1) (by omega), (hI.2 r.toNat (by omega)).2.1]; exact MI_neg (hI.code 0) (by omega))⟩) dX1_negate_36
  · rw [if_pos ⟨by omega, by omega⟩] at hJ
    refine j_iconst hJ dX1_negate_8 ?_
    refine j_goto (tgt := 13) hJ (by decide) dX1_negate_9 ?_
    refine m_putcode hJ hin (by decide +kernel) dX1_negate_13 ?_
    refine j_aload_n hJ dX1_negate_16 rfl ?_
    refine m_code hJ hin (by decide +kernel) dX1_negate_17 ?_
    rw [zup_eq]
    refine j_if_ne (tgt := 36) hJ (by decide) ⟨by omega, by omega⟩ dX1_negate_20 (fun h20 => absurd h20 (by decide)) (fun h20 => ?_)
    refine j_aload_n hJ dX1_negate_23 rfl ?_
    refine m_sign hJ hin (by decide +kernel) dX1_negate_24 ?_
    refine j_iload_n hJ dX1_negate_27 rfl ?_
    refine j_aload_n hJ dX1_negate_28 rfl ?_
    refine m_sign hJ hin (by decide +kernel) dX1_negate_29 ?_
    refine j_iload_n hJ dX1_negate_32 rfl ?_
    refine m_ald_sg hJ ⟨by omega, by omega⟩ dX1_negate_33 ?_
    refine j_ineg hJ dX1_negate_34 ?_
    refine m_ast_sg hJ ⟨by omega, by omega⟩ dX1_negate_35 ?_
    exact j_vret hJ (Nat.le_of_ble_eq_true rfl) (⟨rfl, by first | exact ⟨zup_eq _ _ _ _, hI.code 1⟩ | (refine ⟨by rw [zup_ne (by omega), zup_eq], ?_⟩; rw [zup_off Z 0 0 0 (j' := 1) (by omega), (hI.2 r.toNat (by omega)).2.1]; exact MI_neg (hI.code 0) (by omega))⟩) dX1_negate_36
set_option maxRecDepth 20000 in
theorem kX1_copy (g : Nat → Int) (hI : MI Z g) (r i : Int) (h0 : i32 r) (h1 : i32 i) : Ct l D (tM cI) (wM cI a) yX1_copy wsX1_copy 2 0 46 [.ref (a 0), .int (iZ r), .int (iZ i)] Z (fun v Z' => v = none ∧ Z' 0 0 = (oCopy g r i).1 ∧ MI Z' (oCopy g r i).2) nX := by
  refine Ct.of (cc := cX1_copy) (maxL := 3) (ret := none) rfl (by decide) rfl (Nat.le_of_ble_eq_true rfl) (fun J hJ => ?_)
  have hin : ∀ w ∈ u_ws RX1 TX1 3, w ∈ wsX1_copy := by decide +kernel
  unfold oCopy at hJ
  have p0 := isR_spec r
  have p1 := isR_spec i
  refine j_aload_n hJ dX1_copy_0 rfl ?_
  refine j_iload_n hJ dX1_copy_1 rfl ?_
  refine j_callS hJ (kX1_isRegister l D _ ⟨by omega, by omega⟩) rfl gX1_copy_X1_isRegister rfl hsX1_isRegister rfl ⟨Nat.le_of_ble_eq_true rfl, Nat.le_of_ble_eq_true rfl⟩ (Nat.le_of_ble_eq_true rfl) (Nat.le_of_ble_eq_true rfl) dX1_copy_2 (fun _ h => False.elim h) (fun r2 hp2 => ?_)
  subst hp2
  refine j_if_eq (tgt := 19) hJ (by decide) ⟨by omega, by omega⟩ dX1_copy_5 (fun h5 => ?_) (fun h5 => ?_)
  · rw [if_neg (by omega)] at hJ
    refine j_iconst hJ dX1_copy_19 ?_
    refine m_putcode hJ hin (by decide +kernel) dX1_copy_20 ?_
    refine j_aload_n hJ dX1_copy_23 rfl ?_
    refine m_code hJ hin (by decide +kernel) dX1_copy_24 ?_
    rw [zup_eq]
    refine j_if_ne (tgt := 36) hJ (by decide) ⟨by omega, by omega⟩ dX1_copy_27 (fun h27 => ?_) (fun h27 => absurd h27 (by decide))
    exact j_vret hJ (Nat.le_of_ble_eq_true rfl) (⟨rfl, by first | exact ⟨zup_eq _ _ _ _, hI.code 1⟩ | (refine ⟨by rw [mmov_off (by omega) (by omega), zup_eq], ?_⟩; have g2 := hc.2 i.toNat (by omega); exact MI.reg hc (by omega) (hc.1 i.toNat (by omega)) g2.1 g2.2.1 g2.2.2)⟩) dX1_copy_36
  · refine j_iload_n hJ dX1_copy_8 rfl ?_
    refine j_callS hJ (kX1_isRegister l D _ ⟨by omega, by omega⟩) rfl gX1_copy_X1_isRegister rfl hsX1_isRegister rfl ⟨Nat.le_of_ble_eq_true rfl, Nat.le_of_ble_eq_true rfl⟩ (Nat.le_of_ble_eq_true rfl) (Nat.le_of_ble_eq_true rfl) dX1_copy_9 (fun _ h => False.elim h) (fun r9 hp9 => ?_)
    subst hp9
    refine j_if_eq (tgt := 19) hJ (by decide) ⟨by omega, by omega⟩ dX1_copy_12 (fun h12 => ?_) (fun h12 => ?_)
    · rw [if_neg (by omega)] at hJ
      refine j_iconst hJ dX1_copy_19 ?_
      refine m_putcode hJ hin (by decide +kernel) dX1_copy_20 ?_
      refine j_aload_n hJ dX1_copy_23 rfl ?_
      refine m_code hJ hin (by decide +kernel) dX1_copy_24 ?_
      rw [zup_eq]
      refine j_if_ne (tgt := 36) hJ (by decide) ⟨by omega, by omega⟩ dX1_copy_27 (fun h27 => ?_) (fun h27 => absurd h27 (by decide))
      exact j_vret hJ (Nat.le_of_ble_eq_true rfl) (⟨rfl, by first | exact ⟨zup_eq _ _ _ _, hI.code 1⟩ | (refine ⟨by rw [mmov_off (by omega) (by omega), zup_eq], ?_⟩; have g2 := hc.2 i.toNat (by omega); exact MI.reg hc (by omega) (hc.1 i.toNat (by omega)) g2.1 g2.2.1 g2.2.2)⟩) dX1_copy_36
    · rw [if_pos ⟨⟨by omega, by omega⟩, ⟨by omega, by omega⟩⟩] at hJ
      have g1 := hI.2 i.toNat (by omega)
      have hc := hI.code 0
      refine j_iconst hJ dX1_copy_15 ?_
      refine j_goto (tgt := 20) hJ (by decide) dX1_copy_16 ?_
      refine m_putcode hJ hin (by decide +kernel) dX1_copy_20 ?_
      refine j_aload_n hJ dX1_copy_23 rfl ?_
      refine m_code hJ hin (by decide +kernel) dX1_copy_24 ?_
      rw [zup_eq]
      refine j_if_ne (tgt := 36) hJ (by decide) ⟨by omega, by omega⟩ dX1_copy_27 (fun h27 => absurd h27 (by decide)) (fun h27 => ?_)
      refine j_aload_n hJ dX1_copy_30 rfl ?_
      refine j_iload_n hJ dX1_copy_31 rfl ?_
      refine j_iload_n hJ dX1_copy_32 rfl ?_
      refine j_callV hJ (kX1_move l D cI a _ _ _ ⟨by omega, by omega⟩ ⟨by omega, by omega⟩) rfl gX1_copy_X1_move rfl hdX1_move rfl ⟨Nat.le_of_ble_eq_true rfl, Nat.le_of_ble_eq_true rfl⟩ (Nat.le_of_ble_eq_true rfl) (Nat.le_of_ble_eq_true rfl) rfl rfl dX1_copy_33 (fun _ _ h => False.elim h) (fun r33 Z33 hp33 => ?_)
      obtain ⟨rfl, rfl⟩ := hp33
      exact j_vret hJ (Nat.le_of_ble_eq_true rfl) (⟨rfl, by first | exact ⟨zup_eq _ _ _ _, hI.code 1⟩ | (refine ⟨by rw [mmov_off (by omega) (by omega), zup_eq], ?_⟩; have g2 := hc.2 i.toNat (by omega); exact MI.reg hc (by omega) (hc.1 i.toNat (by omega)) g2.1 g2.2.1 g2.2.2)⟩) dX1_copy_36
set_option maxRecDepth 20000 in
theorem kX1_sign (g : Nat → Int) (hI : MI Z g) (r : Int) (h0 : i32 r) : Ct l D (tM cI) (wM cI a) yX1_sign wsX1_sign 1 0 20 [.ref (a 0), .int (iZ r)] Z (fun v Z' => v = some (.int (iZ (oSign g r).2)) ∧ Z' 0 0 = (oSign g r).1 ∧ MI Z' g) nX := by
  refine Ct.of (cc := cX1_sign) (maxL := 2) (ret := some .int) rfl (by decide) rfl (Nat.le_of_ble_eq_true rfl) (fun J hJ => ?_)
  have hin : ∀ w ∈ u_ws RX1 TX1 3, w ∈ wsX1_sign := by decide +kernel
  unfold oSign at hJ
  have p0 := isR_spec r
  refine j_aload_n hJ dX1_sign_0 rfl ?_
  refine j_iload_n hJ dX1_sign_1 rfl ?_
  refine j_callS hJ (kX1_isRegister l D _ ⟨by omega, by omega⟩) rfl gX1_sign_X1_isRegister rfl hsX1_isRegister rfl ⟨Nat.le_of_ble_eq_true rfl, Nat.le_of_ble_eq_true rfl⟩ (Nat.le_of_ble_eq_true rfl) (Nat.le_of_ble_eq_true rfl) dX1_sign_2 (fun _ h => False.elim h) (fun r2 hp2 => ?_)
  subst hp2
  refine j_if_eq (tgt := 12) hJ (by decide) ⟨by omega, by omega⟩ dX1_sign_5 (fun h5 => ?_) (fun h5 => ?_)
  · rw [if_neg (by omega)] at hJ
    refine j_iconst hJ dX1_sign_12 ?_
    refine m_putcode hJ hin (by decide +kernel) dX1_sign_13 ?_
    refine j_aload_n hJ dX1_sign_16 rfl ?_
    refine m_code hJ hin (by decide +kernel) dX1_sign_17 ?_
    rw [zup_eq]
    refine j_if_le (tgt := 27) hJ (by decide) ⟨by omega, by omega⟩ dX1_sign_20 (fun h20 => absurd h20 (by decide)) (fun h20 => ?_)
    refine j_iconst hJ dX1_sign_23 ?_
    refine j_goto (tgt := 33) hJ (by decide) dX1_sign_24 ?_
    exact j_iret hJ (Nat.le_of_ble_eq_true rfl) (by first | exact ⟨rfl, zup_eq _ _ _ _, hI.code 1⟩ | exact ⟨by rw [zup_off Z 0 0 0 (j' := 1) (by omega), (hI.2 r.toNat (by omega)).2.1], zup_eq _ _ _ _, hI.code 0⟩) dX1_sign_33
  · rw [if_pos ⟨by omega, by omega⟩] at hJ
    refine j_iconst hJ dX1_sign_8 ?_
    refine j_goto (tgt := 13) hJ (by decide) dX1_sign_9 ?_
    refine m_putcode hJ hin (by decide +kernel) dX1_sign_13 ?_
    refine j_aload_n hJ dX1_sign_16 rfl ?_
    refine m_code hJ hin (by decide +kernel) dX1_sign_17 ?_
    rw [zup_eq]
    refine j_if_le (tgt := 27) hJ (by decide) ⟨by omega, by omega⟩ dX1_sign_20 (fun h20 => ?_) (fun h20 => absurd h20 (by decide))
    refine j_aload_n hJ dX1_sign_27 rfl ?_
    refine m_sign hJ hin (by decide +kernel) dX1_sign_28 ?_
    refine j_iload_n hJ dX1_sign_31 rfl ?_
    refine m_ald_sg hJ ⟨by omega, by omega⟩ dX1_sign_32 ?_
    exact j_iret hJ (Nat.le_of_ble_eq_true rfl) (by first | exact ⟨rfl, zup_eq _ _ _ _, hI.code 1⟩ | exact ⟨by rw [zup_off Z 0 0 0 (j' := 1) (by omega), (hI.2 r.toNat (by omega)).2.1], zup_eq _ _ _ _, hI.code 0⟩) dX1_sign_33
set_option maxRecDepth 20000 in
theorem kX1_bits (g : Nat → Int) (hI : MI Z g) (r : Int) (h0 : i32 r) : Ct l D (tM cI) (wM cI a) yX1_bits wsX1_bits 3 0 68 [.ref (a 0), .int (iZ r)] Z (fun v Z' => v = some (.int (iZ (oBits g r).2)) ∧ Z' 0 0 = (oBits g r).1 ∧ MI Z' g) nX := by
  refine Ct.of (cc := cX1_bits) (maxL := 2) (ret := some .int) rfl (by decide) rfl (Nat.le_of_ble_eq_true rfl) (fun J hJ => ?_)
  have hin : ∀ w ∈ u_ws RX1 TX1 3, w ∈ wsX1_bits := by decide +kernel
  unfold oBits at hJ
  have p0 := isR_spec r
  refine j_aload_n hJ dX1_bits_0 rfl ?_
  refine j_iload_n hJ dX1_bits_1 rfl ?_
  refine j_callS hJ (kX1_isRegister l D _ ⟨by omega, by omega⟩) rfl gX1_bits_X1_isRegister rfl hsX1_isRegister rfl ⟨Nat.le_of_ble_eq_true rfl, Nat.le_of_ble_eq_true rfl⟩ (Nat.le_of_ble_eq_true rfl) (Nat.le_of_ble_eq_true rfl) dX1_bits_2 (fun _ h => False.elim h) (fun r2 hp2 => ?_)
  subst hp2
  refine j_if_eq (tgt := 12) hJ (by decide) ⟨by omega, by omega⟩ dX1_bits_5 (fun h5 => ?_) (fun h5 => ?_)
  · rw [if_neg (by omega)] at hJ
    refine j_iconst hJ dX1_bits_12 ?_
    refine m_putcode hJ hin (by decide +kernel) dX1_bits_13 ?_
    refine j_aload_n hJ dX1_bits_16 rfl ?_
    refine m_code hJ hin (by decide +kernel) dX1_bits_17 ?_
    rw [zup_eq]
    refine j_if_le (tgt := 27) hJ (by decide) ⟨by omega, by omega⟩ dX1_bits_20 (fun h20 => absurd h20 (by decide)) (fun h20 => ?_)
    refine j_iconst hJ dX1_bits_23 ?_
    refine j_goto (tgt := 32) hJ (by decide) dX1_bits_24 ?_
    exact j_iret hJ (Nat.le_of_ble_eq_true rfl) (by first | exact ⟨rfl, zup_eq _ _ _ _, hI.code 1⟩ | (refine ⟨?_, zup_eq _ _ _ _, hI.code 0⟩; rw [((hI.code 0).2 r.toNat (by omega)).1] at hz; rw [bl_eq hz])) dX1_bits_32
  · rw [if_pos ⟨by omega, by omega⟩] at hJ
    refine j_iconst hJ dX1_bits_8 ?_
    refine j_goto (tgt := 13) hJ (by decide) dX1_bits_9 ?_
    refine m_putcode hJ hin (by decide +kernel) dX1_bits_13 ?_
    refine j_aload_n hJ dX1_bits_16 rfl ?_
    refine m_code hJ hin (by decide +kernel) dX1_bits_17 ?_
    rw [zup_eq]
    refine j_if_le (tgt := 27) hJ (by decide) ⟨by omega, by omega⟩ dX1_bits_20 (fun h20 => ?_) (fun h20 => absurd h20 (by decide))
    refine j_aload_n hJ dX1_bits_27 rfl ?_
    refine j_iload_n hJ dX1_bits_28 rfl ?_
    refine j_callV hJ (kX1_bitsOf l D cI a _ _ ⟨by omega, by omega⟩ ((hI.code 0).1 r.toNat (by omega))) rfl gX1_bits_X1_bitsOf rfl hdX1_bitsOf rfl ⟨Nat.le_of_ble_eq_true rfl, Nat.le_of_ble_eq_true rfl⟩ (Nat.le_of_ble_eq_true rfl) (Nat.le_of_ble_eq_true rfl) rfl rfl dX1_bits_29 (fun _ _ h => False.elim h) (fun r29 Z29 hp29 => ?_)
    obtain ⟨⟨z, rfl, hz, hz2⟩, rfl⟩ := hp29
    exact j_iret hJ (Nat.le_of_ble_eq_true rfl) (by first | exact ⟨rfl, zup_eq _ _ _ _, hI.code 1⟩ | (refine ⟨?_, zup_eq _ _ _ _, hI.code 0⟩; rw [((hI.code 0).2 r.toNat (by omega)).1] at hz; rw [bl_eq hz])) dX1_bits_32
set_option maxRecDepth 20000 in
theorem kX1_compareSizes (g : Nat → Int) (hI : MI Z g) (r i : Int) (h0 : i32 r) (h1 : i32 i) : Ct l D (tM cI) (wM cI a) yX1_compareSizes wsX1_compareSizes 2 0 45 [.ref (a 0), .int (iZ r), .int (iZ i)] Z (fun v Z' => v = some (.int (iZ (oCmpS g r i).2)) ∧ Z' 0 0 = (oCmpS g r i).1 ∧ MI Z' g) nX := by
  refine Ct.of (cc := cX1_compareSizes) (maxL := 3) (ret := some .int) rfl (by decide) rfl (Nat.le_of_ble_eq_true rfl) (fun J hJ => ?_)
  have hin : ∀ w ∈ u_ws RX1 TX1 3, w ∈ wsX1_compareSizes := by decide +kernel
  unfold oCmpS at hJ
  have p0 := isR_spec r
  have p1 := isR_spec i
  refine j_aload_n hJ dX1_compareSizes_0 rfl ?_
  refine j_iload_n hJ dX1_compareSizes_1 rfl ?_
  refine j_callS hJ (kX1_isRegister l D _ ⟨by omega, by omega⟩) rfl gX1_compareSizes_X1_isRegister rfl hsX1_isRegister rfl ⟨Nat.le_of_ble_eq_true rfl, Nat.le_of_ble_eq_true rfl⟩ (Nat.le_of_ble_eq_true rfl) (Nat.le_of_ble_eq_true rfl) dX1_compareSizes_2 (fun _ h => False.elim h) (fun r2 hp2 => ?_)
  subst hp2
  refine j_if_eq (tgt := 19) hJ (by decide) ⟨by omega, by omega⟩ dX1_compareSizes_5 (fun h5 => ?_) (fun h5 => ?_)
  · rw [if_neg (by omega)] at hJ
    refine j_iconst hJ dX1_compareSizes_19 ?_
    refine m_putcode hJ hin (by decide +kernel) dX1_compareSizes_20 ?_
    refine j_aload_n hJ dX1_compareSizes_23 rfl ?_
    refine m_code hJ hin (by decide +kernel) dX1_compareSizes_24 ?_
    rw [zup_eq]
    refine j_if_le (tgt := 34) hJ (by decide) ⟨by omega, by omega⟩ dX1_compareSizes_27 (fun h27 => absurd h27 (by decide)) (fun h27 => ?_)
    refine j_iconst hJ dX1_compareSizes_30 ?_
    refine j_goto (tgt := 40) hJ (by decide) dX1_compareSizes_31 ?_
    exact j_iret hJ (Nat.le_of_ble_eq_true rfl) (by first | exact ⟨rfl, zup_eq _ _ _ _, hI.code 1⟩ | exact ⟨rfl, zup_eq _ _ _ _, hc⟩) dX1_compareSizes_40
  · refine j_iload_n hJ dX1_compareSizes_8 rfl ?_
    refine j_callS hJ (kX1_isRegister l D _ ⟨by omega, by omega⟩) rfl gX1_compareSizes_X1_isRegister rfl hsX1_isRegister rfl ⟨Nat.le_of_ble_eq_true rfl, Nat.le_of_ble_eq_true rfl⟩ (Nat.le_of_ble_eq_true rfl) (Nat.le_of_ble_eq_true rfl) dX1_compareSizes_9 (fun _ h => False.elim h) (fun r9 hp9 => ?_)
    subst hp9
    refine j_if_eq (tgt := 19) hJ (by decide) ⟨by omega, by omega⟩ dX1_compareSizes_12 (fun h12 => ?_) (fun h12 => ?_)
    · rw [if_neg (by omega)] at hJ
      refine j_iconst hJ dX1_compareSizes_19 ?_
      refine m_putcode hJ hin (by decide +kernel) dX1_compareSizes_20 ?_
      refine j_aload_n hJ dX1_compareSizes_23 rfl ?_
      refine m_code hJ hin (by decide +kernel) dX1_compareSizes_24 ?_
      rw [zup_eq]
      refine j_if_le (tgt := 34) hJ (by decide) ⟨by omega, by omega⟩ dX1_compareSizes_27 (fun h27 => absurd h27 (by decide)) (fun h27 => ?_)
      refine j_iconst hJ dX1_compareSizes_30 ?_
      refine j_goto (tgt := 40) hJ (by decide) dX1_compareSizes_31 ?_
      exact j_iret hJ (Nat.le_of_ble_eq_true rfl) (by first | exact ⟨rfl, zup_eq _ _ _ _, hI.code 1⟩ | exact ⟨rfl, zup_eq _ _ _ _, hc⟩) dX1_compareSizes_40
    · rw [if_pos ⟨⟨by omega, by omega⟩, ⟨by omega, by omega⟩⟩] at hJ
      have hc := hI.code 0
      refine j_iconst hJ dX1_compareSizes_15 ?_
      refine j_goto (tgt := 20) hJ (by decide) dX1_compareSizes_16 ?_
      refine m_putcode hJ hin (by decide +kernel) dX1_compareSizes_20 ?_
      refine j_aload_n hJ dX1_compareSizes_23 rfl ?_
      refine m_code hJ hin (by decide +kernel) dX1_compareSizes_24 ?_
      rw [zup_eq]
      refine j_if_le (tgt := 34) hJ (by decide) ⟨by omega, by omega⟩ dX1_compareSizes_27 (fun h27 => ?_) (fun h27 => absurd h27 (by decide))
      refine j_aload_n hJ dX1_compareSizes_34 rfl ?_
      refine j_iload_n hJ dX1_compareSizes_35 rfl ?_
      refine j_iload_n hJ dX1_compareSizes_36 rfl ?_
      refine j_callV hJ (kX1_order l D cI a _ _ _ ⟨by omega, by omega⟩ ⟨by omega, by omega⟩ (hc.1 r.toNat (by omega)) (hc.1 i.toNat (by omega))) rfl gX1_compareSizes_X1_order rfl hdX1_order rfl ⟨Nat.le_of_ble_eq_true rfl, Nat.le_of_ble_eq_true rfl⟩ (Nat.le_of_ble_eq_true rfl) (Nat.le_of_ble_eq_true rfl) rfl rfl dX1_compareSizes_37 (fun _ _ h => False.elim h) (fun r37 Z37 hp37 => ?_)
      obtain ⟨rfl, rfl⟩ := hp37
      rw [(hc.2 r.toNat (by omega)).1, (hc.2 i.toNat (by omega)).1]
      exact j_iret hJ (Nat.le_of_ble_eq_true rfl) (by first | exact ⟨rfl, zup_eq _ _ _ _, hI.code 1⟩ | exact ⟨rfl, zup_eq _ _ _ _, hc⟩) dX1_compareSizes_40
theorem cz_neg (x y : Int) : cz x y = cz (-y) (-x) := by
  have h1 := cz_spec x y
  have h2 := cz_spec (-y) (-x)
  omega
set_option maxRecDepth 20000 in
theorem kX1_compare (g : Nat → Int) (hI : MI Z g) (r i : Int) (h0 : i32 r) (h1 : i32 i) : Ct l D (tM cI) (wM cI a) yX1_compare wsX1_compare 2 0 45 [.ref (a 0), .int (iZ r), .int (iZ i)] Z (fun v Z' => v = some (.int (iZ (oCmp g r i).2)) ∧ Z' 0 0 = (oCmp g r i).1 ∧ MI Z' g) nX := by
  refine Ct.of (cc := cX1_compare) (maxL := 3) (ret := some .int) rfl (by decide) rfl (Nat.le_of_ble_eq_true rfl) (fun J hJ => ?_)
  have hin : ∀ w ∈ u_ws RX1 TX1 3, w ∈ wsX1_compare := by decide +kernel
  unfold oCmp at hJ
  have p0 := isR_spec r
  have p1 := isR_spec i
  have cs := cz_spec (g r.toNat) (g i.toNat)
  have c1 := sg_cases (g r.toNat)
  have c2 := sg_cases (g i.toNat)
  have z1 := cz_spec ((g r.toNat).natAbs) ((g i.toNat).natAbs)
  have z2 := cz_spec ((g i.toNat).natAbs) ((g r.toNat).natAbs)
  refine j_aload_n hJ dX1_compare_0 rfl ?_
  refine j_iload_n hJ dX1_compare_1 rfl ?_
  refine j_callS hJ (kX1_isRegister l D _ ⟨by omega, by omega⟩) rfl gX1_compare_X1_isRegister rfl hsX1_isRegister rfl ⟨Nat.le_of_ble_eq_true rfl, Nat.le_of_ble_eq_true rfl⟩ (Nat.le_of_ble_eq_true rfl) (Nat.le_of_ble_eq_true rfl) dX1_compare_2 (fun _ h => False.elim h) (fun r2 hp2 => ?_)
  subst hp2
  refine j_if_eq (tgt := 19) hJ (by decide) ⟨by omega, by omega⟩ dX1_compare_5 (fun h5 => ?_) (fun h5 => ?_)
  · rw [if_neg (by omega)] at hJ
    refine j_iconst hJ dX1_compare_19 ?_
    refine m_putcode hJ hin (by decide +kernel) dX1_compare_20 ?_
    refine j_aload_n hJ dX1_compare_23 rfl ?_
    refine m_code hJ hin (by decide +kernel) dX1_compare_24 ?_
    rw [zup_eq]
    refine j_if_le (tgt := 32) hJ (by decide) ⟨by omega, by omega⟩ dX1_compare_27 (fun h27 => absurd h27 (by decide)) (fun h27 => ?_)
    refine j_iconst hJ dX1_compare_30 ?_
    exact j_iret hJ (Nat.le_of_ble_eq_true rfl) (⟨rfl, zup_eq _ _ _ _, hI.code 1⟩) dX1_compare_31
  · refine j_iload_n hJ dX1_compare_8 rfl ?_
    refine j_callS hJ (kX1_isRegister l D _ ⟨by omega, by omega⟩) rfl gX1_compare_X1_isRegister rfl hsX1_isRegister rfl ⟨Nat.le_of_ble_eq_true rfl, Nat.le_of_ble_eq_true rfl⟩ (Nat.le_of_ble_eq_true rfl) (Nat.le_of_ble_eq_true rfl) dX1_compare_9 (fun _ h => False.elim h) (fun r9 hp9 => ?_)
    subst hp9
    refine j_if_eq (tgt := 19) hJ (by decide) ⟨by omega, by omega⟩ dX1_compare_12 (fun h12 => ?_) (fun h12 => ?_)
    · rw [if_neg (by omega)] at hJ
      refine j_iconst hJ dX1_compare_19 ?_
      refine m_putcode hJ hin (by decide +kernel) dX1_compare_20 ?_
      refine j_aload_n hJ dX1_compare_23 rfl ?_
      refine m_code hJ hin (by decide +kernel) dX1_compare_24 ?_
      rw [zup_eq]
      refine j_if_le (tgt := 32) hJ (by decide) ⟨by omega, by omega⟩ dX1_compare_27 (fun h27 => absurd h27 (by decide)) (fun h27 => ?_)
      refine j_iconst hJ dX1_compare_30 ?_
      exact j_iret hJ (Nat.le_of_ble_eq_true rfl) (⟨rfl, zup_eq _ _ _ _, hI.code 1⟩) dX1_compare_31
    · rw [if_pos ⟨⟨by omega, by omega⟩, ⟨by omega, by omega⟩⟩] at hJ
      have hc := hI.code 0
      have s1 := (hc.2 r.toNat (by omega)).2.1
      have s2 := (hc.2 i.toNat (by omega)).2.1
      have q1 := (hc.2 r.toNat (by omega)).1
      have q2 := (hc.2 i.toNat (by omega)).1
      refine j_iconst hJ dX1_compare_15 ?_
      refine j_goto (tgt := 20) hJ (by decide) dX1_compare_16 ?_
      refine m_putcode hJ hin (by decide +kernel) dX1_compare_20 ?_
      refine j_aload_n hJ dX1_compare_23 rfl ?_
      refine m_code hJ hin (by decide +kernel) dX1_compare_24 ?_
      rw [zup_eq]
      refine j_if_le (tgt := 32) hJ (by decide) ⟨by omega, by omega⟩ dX1_compare_27 (fun h27 => ?_) (fun h27 => absurd h27 (by decide))
      refine j_aload_n hJ dX1_compare_32 rfl ?_
      refine m_sign hJ hin (by decide +kernel) dX1_compare_33 ?_
      refine j_iload_n hJ dX1_compare_36 rfl ?_
      refine m_ald_sg hJ ⟨by omega, by omega⟩ dX1_compare_37 ?_
      refine j_aload_n hJ dX1_compare_38 rfl ?_
      refine m_sign hJ hin (by decide +kernel) dX1_compare_39 ?_
      refine j_iload_n hJ dX1_compare_42 rfl ?_
      refine m_ald_sg hJ ⟨by omega, by omega⟩ dX1_compare_43 ?_
      rw [s1, s2]
      refine j_icmp_eq (tgt := 68) hJ (by decide) ⟨by omega, by omega⟩ ⟨by omega, by omega⟩ dX1_compare_44 (fun h44 => ?_) (fun h44 => ?_)
      · refine j_aload_n hJ dX1_compare_68 rfl ?_
        refine m_sign hJ hin (by decide +kernel) dX1_compare_69 ?_
        refine j_iload_n hJ dX1_compare_72 rfl ?_
        refine m_ald_sg hJ ⟨by omega, by omega⟩ dX1_compare_73 ?_
        rw [s1]
        refine j_if_ge (tgt := 86) hJ (by decide) ⟨by omega, by omega⟩ dX1_compare_74 (fun h74 => ?_) (fun h74 => ?_)
        · refine j_aload_n hJ dX1_compare_86 rfl ?_
          refine j_iload_n hJ dX1_compare_87 rfl ?_
          refine j_iload_n hJ dX1_compare_88 rfl ?_
          refine j_callV hJ (kX1_order l D cI a _ _ _ ⟨by omega, by omega⟩ ⟨by omega, by omega⟩ (hc.1 r.toNat (by omega)) (hc.1 i.toNat (by omega))) rfl gX1_compare_X1_order rfl hdX1_order rfl ⟨Nat.le_of_ble_eq_true rfl, Nat.le_of_ble_eq_true rfl⟩ (Nat.le_of_ble_eq_true rfl) (Nat.le_of_ble_eq_true rfl) rfl rfl dX1_compare_89 (fun _ _ h => False.elim h) (fun r89 Z89 hp89 => ?_)
          obtain ⟨rfl, rfl⟩ := hp89
          rw [q1, q2]
          exact j_iret hJ (Nat.le_of_ble_eq_true rfl) (by first | exact ⟨by rw [show cz (g r.toNat) (g i.toNat) = cz ((g i.toNat).natAbs) ((g r.toNat).natAbs) by omega], zup_eq _ _ _ _, hc⟩ | exact ⟨by rw [show cz (g r.toNat) (g i.toNat) = cz ((g r.toNat).natAbs) ((g i.toNat).natAbs) by omega], zup_eq _ _ _ _, hc⟩) dX1_compare_92
        · refine j_aload_n hJ dX1_compare_77 rfl ?_
          refine j_iload_n hJ dX1_compare_78 rfl ?_
          refine j_iload_n hJ dX1_compare_79 rfl ?_
          refine j_callV hJ (kX1_order l D cI a _ _ _ ⟨by omega, by omega⟩ ⟨by omega, by omega⟩ (hc.1 i.toNat (by omega)) (hc.1 r.toNat (by omega))) rfl gX1_compare_X1_order rfl hdX1_order rfl ⟨Nat.le_of_ble_eq_true rfl, Nat.le_of_ble_eq_true rfl⟩ (Nat.le_of_ble_eq_true rfl) (Nat.le_of_ble_eq_true rfl) rfl rfl dX1_compare_80 (fun _ _ h => False.elim h) (fun r80 Z80 hp80 => ?_)
          obtain ⟨rfl, rfl⟩ := hp80
          rw [q1, q2]
          refine j_goto (tgt := 92) hJ (by decide) dX1_compare_83 ?_
          exact j_iret hJ (Nat.le_of_ble_eq_true rfl) (by first | exact ⟨by rw [show cz (g r.toNat) (g i.toNat) = cz ((g i.toNat).natAbs) ((g r.toNat).natAbs) by omega], zup_eq _ _ _ _, hc⟩ | exact ⟨by rw [show cz (g r.toNat) (g i.toNat) = cz ((g r.toNat).natAbs) ((g i.toNat).natAbs) by omega], zup_eq _ _ _ _, hc⟩) dX1_compare_92
      · refine j_aload_n hJ dX1_compare_47 rfl ?_
        refine m_sign hJ hin (by decide +kernel) dX1_compare_48 ?_
        refine j_iload_n hJ dX1_compare_51 rfl ?_
        refine m_ald_sg hJ ⟨by omega, by omega⟩ dX1_compare_52 ?_
        refine j_aload_n hJ dX1_compare_53 rfl ?_
        refine m_sign hJ hin (by decide +kernel) dX1_compare_54 ?_
        refine j_iload_n hJ dX1_compare_57 rfl ?_
        refine m_ald_sg hJ ⟨by omega, by omega⟩ dX1_compare_58 ?_
        rw [s1, s2]
        refine j_icmp_ge (tgt := 66) hJ (by decide) ⟨by omega, by omega⟩ ⟨by omega, by omega⟩ dX1_compare_59 (fun h59 => ?_) (fun h59 => ?_)
        · refine j_iconst hJ dX1_compare_66 ?_
          exact j_iret hJ (Nat.le_of_ble_eq_true rfl) (by first | exact ⟨by rw [show cz (g r.toNat) (g i.toNat) = -1 by omega], zup_eq _ _ _ _, hc⟩ | exact ⟨by rw [show cz (g r.toNat) (g i.toNat) = 1 by omega], zup_eq _ _ _ _, hc⟩) dX1_compare_67
        · refine j_iconst hJ dX1_compare_62 ?_
          refine j_goto (tgt := 67) hJ (by decide) dX1_compare_63 ?_
          exact j_iret hJ (Nat.le_of_ble_eq_true rfl) (by first | exact ⟨by rw [show cz (g r.toNat) (g i.toNat) = -1 by omega], zup_eq _ _ _ _, hc⟩ | exact ⟨by rw [show cz (g r.toNat) (g i.toNat) = 1 by omega], zup_eq _ _ _ _, hc⟩) dX1_compare_67
end M7
