section M8
variable (l : Launch) (D : va_G) (cI : ClassId) (a : Nat → Nat) (Z : ZZ)
/-- four digits put into a cleared register -/
theorem set_MI {Z : ZZ} {g : Nat → Int} (h : MI Z g) {r : Nat} (hr : r < 12) {s d0 d1 d2 d3 v : Int} (hs : s = v.sign) (h0 : 0 ≤ d0 ∧ d0 < 65536) (h1 : 0 ≤ d1 ∧ d1 < 65536) (h2 : 0 ≤ d2 ∧ d2 < 65536) (h3 : 0 ≤ d3 ∧ d3 < 65536) (hv : d0 + d1 * 65536 + d2 * 4294967296 + d3 * 281474976710656 = (v.natAbs : Int)) :
    zup (zup (zup (zup (zup (mclr Z r) 1 r s) (r + 2) 0 d0) (r + 2) 1 d1) (r + 2) 2 d2) (r + 2) 3 d3 0 0 = Z 0 0 ∧ MI (zup (zup (zup (zup (zup (mclr Z r) 1 r s) (r + 2) 0 d0) (r + 2) 1 d1) (r + 2) 2 d2) (r + 2) 3 d3) (gset g r v) := by
  have hz : ∀ k, k < 2100 → mclr Z r (r + 2) k = 0 := fun k hk => mclr_row hk
  have hrow : zup (zup (zup (zup (zup (mclr Z r) 1 r s) (r + 2) 0 d0) (r + 2) 1 d1) (r + 2) 2 d2) (r + 2) 3 d3 (r + 2) = fset (fset (fset (fset (mclr Z r (r + 2)) 0 d0) 1 d1) 2 d2) 3 d3 := by
    rw [zup_fset, zup_fset, zup_fset, zup_fset, zup_off _ 1 _ _ (by omega)]
  have f0 : fset (fset (fset (fset (mclr Z r (r + 2)) 0 d0) 1 d1) 2 d2) 3 d3 0 = d0 := by rw [fset_ne (by omega), fset_ne (by omega), fset_ne (by omega), fset_eq]
  have f1 : fset (fset (fset (fset (mclr Z r (r + 2)) 0 d0) 1 d1) 2 d2) 3 d3 1 = d1 := by rw [fset_ne (by omega), fset_ne (by omega), fset_eq]
  have f2 : fset (fset (fset (fset (mclr Z r (r + 2)) 0 d0) 1 d1) 2 d2) 3 d3 2 = d2 := by rw [fset_ne (by omega), fset_eq]
  have f3 : fset (fset (fset (fset (mclr Z r (r + 2)) 0 d0) 1 d1) 2 d2) 3 d3 3 = d3 := fset_eq _ _ _
  have f4 : ∀ k, 4 ≤ k → k < 2100 → fset (fset (fset (fset (mclr Z r (r + 2)) 0 d0) 1 d1) 2 d2) 3 d3 k = 0 := fun k q1 q2 => by rw [fset_ne (by omega), fset_ne (by omega), fset_ne (by omega), fset_ne (by omega), hz k q2]
  refine ⟨?_, MI.reg2 h hr (fun j hj hn k hk => ?_) (fun i hi hn => ?_) ?_ ?_ ?_ ?_⟩
  · rw [zup_ne (by omega), zup_ne (by omega), zup_ne (by omega), zup_ne (by omega), zup_ne (by omega), mclr_off (by omega) (by omega)]
  · rw [zup_ne (by omega), zup_ne (by omega), zup_ne (by omega), zup_ne (by omega), zup_ne (by omega), mclr_off (by omega) (by omega)]
  · rw [zup_ne (by omega), zup_ne (by omega), zup_ne (by omega), zup_ne (by omega), zup_ne (by omega), mclr_sgo hn]
  · rw [hrow]
    intro k hk
    rcases Nat.lt_or_ge k 4 with q | q
    · rcases (show k = 0 ∨ k = 1 ∨ k = 2 ∨ k = 3 by omega) with rfl | rfl | rfl | rfl
      · rw [f0]; exact h0
      · rw [f1]; exact h1
      · rw [f2]; exact h2
      · rw [f3]; exact h3
    · rw [f4 k q hk]; exact ⟨by omega, by omega⟩
  · rw [hrow, vs4 f4, f0, f1, f2, f3, hv]
  · rw [zup_ne (by omega), zup_ne (by omega), zup_ne (by omega), zup_ne (by omega), zup_eq, hs]
  · exact small_LIM (by omega)
set_option maxRecDepth 20000 in
theorem kX1_set (g : Nat → Int) (hI : MI Z g) (r v : Int) (h0 : i32 r) (h1 : i64 v) : Ct l D (tM cI) (wM cI a) yX1_set wsX1_set 2 0 45 [.ref (a 0), .int (iZ r), .long (lZ v)] Z (fun w Z' => w = none ∧ Z' 0 0 = (oSet g r v).1 ∧ MI Z' (oSet g r v).2) nX := by
  refine Ct.of (cc := cX1_set) (maxL := 7) (ret := none) rfl (by decide) rfl (Nat.le_of_ble_eq_true rfl) (fun J hJ => ?_)
  have hin : ∀ w ∈ u_ws RX1 TX1 3, w ∈ wsX1_set := by decide +kernel
  unfold oSet at hJ
  have p0 := isR_spec r
  have c1 := sg_cases v
  have hfin : ∀ (s d0 d1 d2 d3 : Int), isRg r → s = v.sign → (0 ≤ d0 ∧ d0 < 65536) → (0 ≤ d1 ∧ d1 < 65536) → (0 ≤ d2 ∧ d2 < 65536) → (0 ≤ d3 ∧ d3 < 65536) → d0 + d1 * 65536 + d2 * 4294967296 + d3 * 281474976710656 = (v.natAbs : Int) → _ := fun s d0 d1 d2 d3 q0 q1 q2 q3 q4 q5 q6 => set_MI (hI.code 0) (r := r.toNat) (by omega) (s := s) (d0 := d0) (d1 := d1) (d2 := d2) (d3 := d3) (v := v) q1 q2 q3 q4 q5 q6
  rw [zup_eq] at hfin
  by_cases hv : v < 0
  · clear c1
    refine j_aload_n hJ dX1_set_0 rfl ?_
    refine j_iload_n hJ dX1_set_1 rfl ?_
    refine j_callS hJ (kX1_isRegister l D _ ⟨by omega, by omega⟩) rfl gX1_set_X1_isRegister rfl hsX1_isRegister rfl ⟨Nat.le_of_ble_eq_true rfl, Nat.le_of_ble_eq_true rfl⟩ (Nat.le_of_ble_eq_true rfl) (Nat.le_of_ble_eq_true rfl) dX1_set_2 (fun _ h => False.elim h) (fun r2 hp2 => ?_)
    subst hp2
    refine j_if_eq (tgt := 12) hJ (by decide) ⟨by omega, by omega⟩ dX1_set_5 (fun h5 => ?_) (fun h5 => ?_)
    · rw [if_neg (by omega)] at hJ
      refine j_iconst hJ dX1_set_12 ?_
      refine m_putcode hJ hin (by decide +kernel) dX1_set_13 ?_
      refine j_aload_n hJ dX1_set_16 rfl ?_
      refine m_code hJ hin (by decide +kernel) dX1_set_17 ?_
      rw [zup_eq]
      refine j_if_le (tgt := 24) hJ (by decide) ⟨by omega, by omega⟩ dX1_set_20 (fun h20 => absurd h20 (by decide)) (fun h20 => ?_)
      exact j_vret hJ (Nat.le_of_ble_eq_true rfl) (⟨rfl, zup_eq _ _ _ _, hI.code 1⟩) dX1_set_23
    · rw [if_pos ⟨by omega, by omega⟩] at hJ
      refine j_iconst hJ dX1_set_8 ?_
      refine j_goto (tgt := 13) hJ (by decide) dX1_set_9 ?_
      refine m_putcode hJ hin (by decide +kernel) dX1_set_13 ?_
      refine j_aload_n hJ dX1_set_16 rfl ?_
      refine m_code hJ hin (by decide +kernel) dX1_set_17 ?_
      rw [zup_eq]
      refine j_if_le (tgt := 24) hJ (by decide) ⟨by omega, by omega⟩ dX1_set_20 (fun h20 => ?_) (fun h20 => absurd h20 (by decide))
      refine j_aload_n hJ dX1_set_24 rfl ?_
      refine j_iload_n hJ dX1_set_25 rfl ?_
      refine j_callV hJ (kX1_clear l D cI a _ _ ⟨by omega, by omega⟩) rfl gX1_set_X1_clear rfl hdX1_clear rfl ⟨Nat.le_of_ble_eq_true rfl, Nat.le_of_ble_eq_true rfl⟩ (Nat.le_of_ble_eq_true rfl) (Nat.le_of_ble_eq_true rfl) rfl rfl dX1_set_26 (fun _ _ h => False.elim h) (fun r26 Z26 hp26 => ?_)
      obtain ⟨rfl, rfl⟩ := hp26
      refine j_aload_n hJ dX1_set_29 rfl ?_
      refine m_sign hJ hin (by decide +kernel) dX1_set_30 ?_
      refine j_iload_n hJ dX1_set_33 rfl ?_
      refine j_lload_n hJ dX1_set_34 rfl ?_
      refine j_lconst (z := 0) hJ (by decide) dX1_set_35 ?_
      refine j_lcmp_le (tgt := 44) hJ (by decide) ⟨by omega, by omega⟩ ⟨by omega, by omega⟩ dX1_set_36 dX1_set_37 (fun h36 => ?_) (fun h36 => ?_)
      · refine j_lload_n hJ dX1_set_44 rfl ?_
        refine j_lconst (z := 0) hJ (by decide) dX1_set_45 ?_
        refine j_lcmp_ge (tgt := 54) hJ (by decide) ⟨by omega, by omega⟩ ⟨by omega, by omega⟩ dX1_set_46 dX1_set_47 (fun h46 => ?_) (fun h46 => ?_)
        · omega
        · refine j_iconst hJ dX1_set_50 ?_
          refine j_goto (tgt := 55) hJ (by decide) dX1_set_51 ?_
          refine m_ast_sg hJ ⟨by omega, by omega⟩ dX1_set_55 ?_
          refine j_lload_n hJ dX1_set_56 rfl ?_
          refine j_lconst (z := 0) hJ (by decide) dX1_set_57 ?_
          refine j_lcmp_ge (tgt := 66) hJ (by decide) ⟨by omega, by omega⟩ ⟨by omega, by omega⟩ dX1_set_58 dX1_set_59 (fun h58 => ?_) (fun h58 => ?_)
          · omega
          · refine j_iconst hJ dX1_set_62 ?_
            refine j_goto (tgt := 67) hJ (by decide) dX1_set_63 ?_
            refine j_istore hJ (by decide) dX1_set_67 ?_
            refine j_iconst hJ dX1_set_69 ?_
            refine j_istore hJ (by decide) dX1_set_70 ?_
            refine j_re (lv' := [(0, _), (1, _), (2, _), (4, _), (5, _)]) hJ ?_ ⟨rfl, rfl, rfl, rfl, rfl, trivial⟩
            refine j_iload hJ dX1_set_72 rfl ?_
            refine j_iconst hJ dX1_set_74 ?_
            refine j_icmp_ge (tgt := 132) hJ (by decide) ⟨by omega, by omega⟩ ⟨by omega, by omega⟩ dX1_set_75 (fun h75 => absurd h75 (by decide)) (fun h75 => ?_)
            refine j_lload_n hJ dX1_set_78 rfl ?_
            refine j_bipush hJ (by decide) dX1_set_79 ?_
            refine j_iload hJ dX1_set_81 rfl ?_
            refine j_imul hJ dX1_set_83 ?_
            refine j_lshr (n := 0) hJ (by decide) ⟨by omega, by omega⟩ dX1_set_84 ?_
            refine j_l2i hJ dX1_set_85 ?_
            refine j_ldc (v := 65535) (z := 65535) hJ (by decide) (by decide +kernel) dX1_set_86 ?_
            refine j_iand hJ (iZ_low16 _) dX1_set_88 ?_
            refine j_istore hJ (by decide) dX1_set_89 ?_
            refine j_lload_n hJ dX1_set_91 rfl ?_
            refine j_lconst (z := 0) hJ (by decide) dX1_set_92 ?_
            refine j_lcmp_ge (tgt := 114) hJ (by decide) ⟨by omega, by omega⟩ ⟨by omega, by omega⟩ dX1_set_93 dX1_set_94 (fun h => absurd h (by omega)) (fun _ => ?_)
            refine j_ldc (v := 65535) (z := 65535) hJ (by decide) (by decide +kernel) dX1_set_97 ?_
            refine j_iload hJ dX1_set_99 rfl ?_
            refine j_isub hJ dX1_set_101 ?_
            refine j_iload hJ dX1_set_102 rfl ?_
            refine j_iadd hJ dX1_set_104 ?_
            refine j_istore hJ (by decide) dX1_set_105 ?_
            refine j_iload hJ dX1_set_107 rfl ?_
            refine j_bipush hJ (by decide) dX1_set_109 ?_
            refine j_ishr (n := 16) hJ (by decide) ⟨by omega, by omega⟩ dX1_set_111 ?_
            refine j_istore hJ (by decide) dX1_set_112 ?_
            refine j_aload_n hJ dX1_set_114 rfl ?_
            refine j_iload_n hJ dX1_set_115 rfl ?_
            refine j_iload hJ dX1_set_116 rfl ?_
            refine j_iload hJ dX1_set_118 rfl ?_
            refine j_ldc (v := 65535) (z := 65535) hJ (by decide) (by decide +kernel) dX1_set_120 ?_
            refine j_iand hJ (iZ_low16 _) dX1_set_122 ?_
            refine j_callV hJ (kX1_put l D cI a _ _ _ _ ⟨by omega, by omega⟩ ⟨by omega, by omega⟩) rfl gX1_set_X1_put rfl hdX1_put rfl ⟨Nat.le_of_ble_eq_true rfl, Nat.le_of_ble_eq_true rfl⟩ (Nat.le_of_ble_eq_true rfl) (Nat.le_of_ble_eq_true rfl) rfl rfl dX1_set_123 (fun _ _ h => False.elim h) (fun r123 Z123 hp123 => ?_)
            obtain ⟨rfl, rfl⟩ := hp123
            refine j_iinc hJ (by decide) dX1_set_126 rfl ?_
            refine j_re (lv' := [(0, _), (1, _), (2, _), (4, _), (5, _), (6, _)]) hJ ?_ ⟨rfl, rfl, rfl, rfl, rfl, rfl, trivial⟩
            refine j_goto (tgt := 72) hJ (by decide) dX1_set_129 ?_
            refine j_re (lv' := [(0, _), (1, _), (2, _), (4, _), (5, _), (6, _)]) hJ ?_ ⟨rfl, rfl, rfl, rfl, rfl, rfl, trivial⟩
            refine j_iload hJ dX1_set_72 rfl ?_
            refine j_iconst hJ dX1_set_74 ?_
            refine j_icmp_ge (tgt := 132) hJ (by decide) ⟨by omega, by omega⟩ ⟨by omega, by omega⟩ dX1_set_75 (fun h75 => absurd h75 (by decide)) (fun h75 => ?_)
            refine j_lload_n hJ dX1_set_78 rfl ?_
            refine j_bipush hJ (by decide) dX1_set_79 ?_
            refine j_iload hJ dX1_set_81 rfl ?_
            refine j_imul hJ dX1_set_83 ?_
            refine j_lshr (n := 16) hJ (by decide) ⟨by omega, by omega⟩ dX1_set_84 ?_
            refine j_l2i hJ dX1_set_85 ?_
            refine j_ldc (v := 65535) (z := 65535) hJ (by decide) (by decide +kernel) dX1_set_86 ?_
            refine j_iand hJ (iZ_low16 _) dX1_set_88 ?_
            refine j_istore hJ (by decide) dX1_set_89 ?_
            refine j_lload_n hJ dX1_set_91 rfl ?_
            refine j_lconst (z := 0) hJ (by decide) dX1_set_92 ?_
            refine j_lcmp_ge (tgt := 114) hJ (by decide) ⟨by omega, by omega⟩ ⟨by omega, by omega⟩ dX1_set_93 dX1_set_94 (fun h => absurd h (by omega)) (fun _ => ?_)
            refine j_ldc (v := 65535) (z := 65535) hJ (by decide) (by decide +kernel) dX1_set_97 ?_
            refine j_iload hJ dX1_set_99 rfl ?_
            refine j_isub hJ dX1_set_101 ?_
            refine j_iload hJ dX1_set_102 rfl ?_
            refine j_iadd hJ dX1_set_104 ?_
            refine j_istore hJ (by decide) dX1_set_105 ?_
            refine j_iload hJ dX1_set_107 rfl ?_
            refine j_bipush hJ (by decide) dX1_set_109 ?_
            refine j_ishr (n := 16) hJ (by decide) ⟨by omega, by omega⟩ dX1_set_111 ?_
            refine j_istore hJ (by decide) dX1_set_112 ?_
            refine j_aload_n hJ dX1_set_114 rfl ?_
            refine j_iload_n hJ dX1_set_115 rfl ?_
            refine j_iload hJ dX1_set_116 rfl ?_
            refine j_iload hJ dX1_set_118 rfl ?_
            refine j_ldc (v := 65535) (z := 65535) hJ (by decide) (by decide +kernel) dX1_set_120 ?_
            refine j_iand hJ (iZ_low16 _) dX1_set_122 ?_
            refine j_callV hJ (kX1_put l D cI a _ _ _ _ ⟨by omega, by omega⟩ ⟨by omega, by omega⟩) rfl gX1_set_X1_put rfl hdX1_put rfl ⟨Nat.le_of_ble_eq_true rfl, Nat.le_of_ble_eq_true rfl⟩ (Nat.le_of_ble_eq_true rfl) (Nat.le_of_ble_eq_true rfl) rfl rfl dX1_set_123 (fun _ _ h => False.elim h) (fun r123 Z123 hp123 => ?_)
            obtain ⟨rfl, rfl⟩ := hp123
            refine j_iinc hJ (by decide) dX1_set_126 rfl ?_
            refine j_re (lv' := [(0, _), (1, _), (2, _), (4, _), (5, _), (6, _)]) hJ ?_ ⟨rfl, rfl, rfl, rfl, rfl, rfl, trivial⟩
            refine j_goto (tgt := 72) hJ (by decide) dX1_set_129 ?_
            refine j_re (lv' := [(0, _), (1, _), (2, _), (4, _), (5, _), (6, _)]) hJ ?_ ⟨rfl, rfl, rfl, rfl, rfl, rfl, trivial⟩
            refine j_iload hJ dX1_set_72 rfl ?_
            refine j_iconst hJ dX1_set_74 ?_
            refine j_icmp_ge (tgt := 132) hJ (by decide) ⟨by omega, by omega⟩ ⟨by omega, by omega⟩ dX1_set_75 (fun h75 => absurd h75 (by decide)) (fun h75 => ?_)
            refine j_lload_n hJ dX1_set_78 rfl ?_
            refine j_bipush hJ (by decide) dX1_set_79 ?_
            refine j_iload hJ dX1_set_81 rfl ?_
            refine j_imul hJ dX1_set_83 ?_
            refine j_lshr (n := 32) hJ (by decide) ⟨by omega, by omega⟩ dX1_set_84 ?_
            refine j_l2i hJ dX1_set_85 ?_
            refine j_ldc (v := 65535) (z := 65535) hJ (by decide) (by decide +kernel) dX1_set_86 ?_
            refine j_iand hJ (iZ_low16 _) dX1_set_88 ?_
            refine j_istore hJ (by decide) dX1_set_89 ?_
            refine j_lload_n hJ dX1_set_91 rfl ?_
            refine j_lconst (z := 0) hJ (by decide) dX1_set_92 ?_
            refine j_lcmp_ge (tgt := 114) hJ (by decide) ⟨by omega, by omega⟩ ⟨by omega, by omega⟩ dX1_set_93 dX1_set_94 (fun h => absurd h (by omega)) (fun _ => ?_)
            refine j_ldc (v := 65535) (z := 65535) hJ (by decide) (by decide +kernel) dX1_set_97 ?_
            refine j_iload hJ dX1_set_99 rfl ?_
            refine j_isub hJ dX1_set_101 ?_
            refine j_iload hJ dX1_set_102 rfl ?_
            refine j_iadd hJ dX1_set_104 ?_
            refine j_istore hJ (by decide) dX1_set_105 ?_
            refine j_iload hJ dX1_set_107 rfl ?_
            refine j_bipush hJ (by decide) dX1_set_109 ?_
            refine j_ishr (n := 16) hJ (by decide) ⟨by omega, by omega⟩ dX1_set_111 ?_
            refine j_istore hJ (by decide) dX1_set_112 ?_
            refine j_aload_n hJ dX1_set_114 rfl ?_
            refine j_iload_n hJ dX1_set_115 rfl ?_
            refine j_iload hJ dX1_set_116 rfl ?_
            refine j_iload hJ dX1_set_118 rfl ?_
            refine j_ldc (v := 65535) (z := 65535) hJ (by decide) (by decide +kernel) dX1_set_120 ?_
            refine j_iand hJ (iZ_low16 _) dX1_set_122 ?_
            refine j_callV hJ (kX1_put l D cI a _ _ _ _ ⟨by omega, by omega⟩ ⟨by omega, by omega⟩) rfl gX1_set_X1_put rfl hdX1_put rfl ⟨Nat.le_of_ble_eq_true rfl, Nat.le_of_ble_eq_true rfl⟩ (Nat.le_of_ble_eq_true rfl) (Nat.le_of_ble_eq_true rfl) rfl rfl dX1_set_123 (fun _ _ h => False.elim h) (fun r123 Z123 hp123 => ?_)
            obtain ⟨rfl, rfl⟩ := hp123
            refine j_iinc hJ (by decide) dX1_set_126 rfl ?_
            refine j_re (lv' := [(0, _), (1, _), (2, _), (4, _), (5, _), (6, _)]) hJ ?_ ⟨rfl, rfl, rfl, rfl, rfl, rfl, trivial⟩
            refine j_goto (tgt := 72) hJ (by decide) dX1_set_129 ?_
            refine j_re (lv' := [(0, _), (1, _), (2, _), (4, _), (5, _), (6, _)]) hJ ?_ ⟨rfl, rfl, rfl, rfl, rfl, rfl, trivial⟩
            refine j_iload hJ dX1_set_72 rfl ?_
            refine j_iconst hJ dX1_set_74 ?_
            refine j_icmp_ge (tgt := 132) hJ (by decide) ⟨by omega, by omega⟩ ⟨by omega, by omega⟩ dX1_set_75 (fun h75 => absurd h75 (by decide)) (fun h75 => ?_)
            refine j_lload_n hJ dX1_set_78 rfl ?_
            refine j_bipush hJ (by decide) dX1_set_79 ?_
            refine j_iload hJ dX1_set_81 rfl ?_
            refine j_imul hJ dX1_set_83 ?_
            refine j_lshr (n := 48) hJ (by decide) ⟨by omega, by omega⟩ dX1_set_84 ?_
            refine j_l2i hJ dX1_set_85 ?_
            refine j_ldc (v := 65535) (z := 65535) hJ (by decide) (by decide +kernel) dX1_set_86 ?_
            refine j_iand hJ (iZ_low16 _) dX1_set_88 ?_
            refine j_istore hJ (by decide) dX1_set_89 ?_
            refine j_lload_n hJ dX1_set_91 rfl ?_
            refine j_lconst (z := 0) hJ (by decide) dX1_set_92 ?_
            refine j_lcmp_ge (tgt := 114) hJ (by decide) ⟨by omega, by omega⟩ ⟨by omega, by omega⟩ dX1_set_93 dX1_set_94 (fun h => absurd h (by omega)) (fun _ => ?_)
            refine j_ldc (v := 65535) (z := 65535) hJ (by decide) (by decide +kernel) dX1_set_97 ?_
            refine j_iload hJ dX1_set_99 rfl ?_
            refine j_isub hJ dX1_set_101 ?_
            refine j_iload hJ dX1_set_102 rfl ?_
            refine j_iadd hJ dX1_set_104 ?_
            refine j_istore hJ (by decide) dX1_set_105 ?_
            refine j_iload hJ dX1_set_107 rfl ?_
            refine j_bipush hJ (by decide) dX1_set_109 ?_
            refine j_ishr (n := 16) hJ (by decide) ⟨by omega, by omega⟩ dX1_set_111 ?_
            refine j_istore hJ (by decide) dX1_set_112 ?_
            refine j_aload_n hJ dX1_set_114 rfl ?_
            refine j_iload_n hJ dX1_set_115 rfl ?_
            refine j_iload hJ dX1_set_116 rfl ?_
            refine j_iload hJ dX1_set_118 rfl ?_
            refine j_ldc (v := 65535) (z := 65535) hJ (by decide) (by decide +kernel) dX1_set_120 ?_
            refine j_iand hJ (iZ_low16 _) dX1_set_122 ?_
            refine j_callV hJ (kX1_put l D cI a _ _ _ _ ⟨by omega, by omega⟩ ⟨by omega, by omega⟩) rfl gX1_set_X1_put rfl hdX1_put rfl ⟨Nat.le_of_ble_eq_true rfl, Nat.le_of_ble_eq_true rfl⟩ (Nat.le_of_ble_eq_true rfl) (Nat.le_of_ble_eq_true rfl) rfl rfl dX1_set_123 (fun _ _ h => False.elim h) (fun r123 Z123 hp123 => ?_)
            obtain ⟨rfl, rfl⟩ := hp123
            refine j_iinc hJ (by decide) dX1_set_126 rfl ?_
            refine j_re (lv' := [(0, _), (1, _), (2, _), (4, _), (5, _), (6, _)]) hJ ?_ ⟨rfl, rfl, rfl, rfl, rfl, rfl, trivial⟩
            refine j_goto (tgt := 72) hJ (by decide) dX1_set_129 ?_
            refine j_re (lv' := [(0, _), (1, _), (2, _), (4, _), (5, _), (6, _)]) hJ ?_ ⟨rfl, rfl, rfl, rfl, rfl, rfl, trivial⟩
            refine j_iload hJ dX1_set_72 rfl ?_
            refine j_iconst hJ dX1_set_74 ?_
            refine j_icmp_ge (tgt := 132) hJ (by decide) ⟨by omega, by omega⟩ ⟨by omega, by omega⟩ dX1_set_75 (fun h75 => ?_) (fun h75 => absurd h75 (by decide))
            exact j_vret hJ (Nat.le_of_ble_eq_true rfl) (⟨rfl, hfin _ _ _ _ _ ⟨by omega, by omega⟩ (by have := sg_cases v; omega) ⟨by omega, by omega⟩ ⟨by omega, by omega⟩ ⟨by omega, by omega⟩ ⟨by omega, by omega⟩ (by have := sg_cases v; omega)⟩) dX1_set_132
      · omega
  · clear c1
    refine j_aload_n hJ dX1_set_0 rfl ?_
    refine j_iload_n hJ dX1_set_1 rfl ?_
    refine j_callS hJ (kX1_isRegister l D _ ⟨by omega, by omega⟩) rfl gX1_set_X1_isRegister rfl hsX1_isRegister rfl ⟨Nat.le_of_ble_eq_true rfl, Nat.le_of_ble_eq_true rfl⟩ (Nat.le_of_ble_eq_true rfl) (Nat.le_of_ble_eq_true rfl) dX1_set_2 (fun _ h => False.elim h) (fun r2 hp2 => ?_)
    subst hp2
    refine j_if_eq (tgt := 12) hJ (by decide) ⟨by omega, by omega⟩ dX1_set_5 (fun h5 => ?_) (fun h5 => ?_)
    · rw [if_neg (by omega)] at hJ
      refine j_iconst hJ dX1_set_12 ?_
      refine m_putcode hJ hin (by decide +kernel) dX1_set_13 ?_
      refine j_aload_n hJ dX1_set_16 rfl ?_
      refine m_code hJ hin (by decide +kernel) dX1_set_17 ?_
      rw [zup_eq]
      refine j_if_le (tgt := 24) hJ (by decide) ⟨by omega, by omega⟩ dX1_set_20 (fun h20 => absurd h20 (by decide)) (fun h20 => ?_)
      exact j_vret hJ (Nat.le_of_ble_eq_true rfl) (⟨rfl, zup_eq _ _ _ _, hI.code 1⟩) dX1_set_23
    · rw [if_pos ⟨by omega, by omega⟩] at hJ
      refine j_iconst hJ dX1_set_8 ?_
      refine j_goto (tgt := 13) hJ (by decide) dX1_set_9 ?_
      refine m_putcode hJ hin (by decide +kernel) dX1_set_13 ?_
      refine j_aload_n hJ dX1_set_16 rfl ?_
      refine m_code hJ hin (by decide +kernel) dX1_set_17 ?_
      rw [zup_eq]
      refine j_if_le (tgt := 24) hJ (by decide) ⟨by omega, by omega⟩ dX1_set_20 (fun h20 => ?_) (fun h20 => absurd h20 (by decide))
      refine j_aload_n hJ dX1_set_24 rfl ?_
      refine j_iload_n hJ dX1_set_25 rfl ?_
      refine j_callV hJ (kX1_clear l D cI a _ _ ⟨by omega, by omega⟩) rfl gX1_set_X1_clear rfl hdX1_clear rfl ⟨Nat.le_of_ble_eq_true rfl, Nat.le_of_ble_eq_true rfl⟩ (Nat.le_of_ble_eq_true rfl) (Nat.le_of_ble_eq_true rfl) rfl rfl dX1_set_26 (fun _ _ h => False.elim h) (fun r26 Z26 hp26 => ?_)
      obtain ⟨rfl, rfl⟩ := hp26
      refine j_aload_n hJ dX1_set_29 rfl ?_
      refine m_sign hJ hin (by decide +kernel) dX1_set_30 ?_
      refine j_iload_n hJ dX1_set_33 rfl ?_
      refine j_lload_n hJ dX1_set_34 rfl ?_
      refine j_lconst (z := 0) hJ (by decide) dX1_set_35 ?_
      refine j_lcmp_le (tgt := 44) hJ (by decide) ⟨by omega, by omega⟩ ⟨by omega, by omega⟩ dX1_set_36 dX1_set_37 (fun h36 => ?_) (fun h36 => ?_)
      · refine j_lload_n hJ dX1_set_44 rfl ?_
        refine j_lconst (z := 0) hJ (by decide) dX1_set_45 ?_
        refine j_lcmp_ge (tgt := 54) hJ (by decide) ⟨by omega, by omega⟩ ⟨by omega, by omega⟩ dX1_set_46 dX1_set_47 (fun h46 => ?_) (fun h46 => ?_)
        · refine j_iconst hJ dX1_set_54 ?_
          refine m_ast_sg hJ ⟨by omega, by omega⟩ dX1_set_55 ?_
          refine j_lload_n hJ dX1_set_56 rfl ?_
          refine j_lconst (z := 0) hJ (by decide) dX1_set_57 ?_
          refine j_lcmp_ge (tgt := 66) hJ (by decide) ⟨by omega, by omega⟩ ⟨by omega, by omega⟩ dX1_set_58 dX1_set_59 (fun h58 => ?_) (fun h58 => ?_)
          · refine j_iconst hJ dX1_set_66 ?_
            refine j_istore hJ (by decide) dX1_set_67 ?_
            refine j_iconst hJ dX1_set_69 ?_
            refine j_istore hJ (by decide) dX1_set_70 ?_
            refine j_re (lv' := [(0, _), (1, _), (2, _), (4, _), (5, _)]) hJ ?_ ⟨rfl, rfl, rfl, rfl, rfl, trivial⟩
            refine j_iload hJ dX1_set_72 rfl ?_
            refine j_iconst hJ dX1_set_74 ?_
            refine j_icmp_ge (tgt := 132) hJ (by decide) ⟨by omega, by omega⟩ ⟨by omega, by omega⟩ dX1_set_75 (fun h75 => absurd h75 (by decide)) (fun h75 => ?_)
            refine j_lload_n hJ dX1_set_78 rfl ?_
            refine j_bipush hJ (by decide) dX1_set_79 ?_
            refine j_iload hJ dX1_set_81 rfl ?_
            refine j_imul hJ dX1_set_83 ?_
            refine j_lshr (n := 0) hJ (by decide) ⟨by omega, by omega⟩ dX1_set_84 ?_
            refine j_l2i hJ dX1_set_85 ?_
            refine j_ldc (v := 65535) (z := 65535) hJ (by decide) (by decide +kernel) dX1_set_86 ?_
            refine j_iand hJ (iZ_low16 _) dX1_set_88 ?_
            refine j_istore hJ (by decide) dX1_set_89 ?_
            refine j_lload_n hJ dX1_set_91 rfl ?_
            refine j_lconst (z := 0) hJ (by decide) dX1_set_92 ?_
            refine j_lcmp_ge (tgt := 114) hJ (by decide) ⟨by omega, by omega⟩ ⟨by omega, by omega⟩ dX1_set_93 dX1_set_94 (fun h93 => ?_) (fun h93 => ?_)
            · refine j_aload_n hJ dX1_set_114 rfl ?_
              refine j_iload_n hJ dX1_set_115 rfl ?_
              refine j_iload hJ dX1_set_116 rfl ?_
              refine j_iload hJ dX1_set_118 rfl ?_
              refine j_ldc (v := 65535) (z := 65535) hJ (by decide) (by decide +kernel) dX1_set_120 ?_
              refine j_iand hJ (iZ_low16 _) dX1_set_122 ?_
              refine j_callV hJ (kX1_put l D cI a _ _ _ _ ⟨by omega, by omega⟩ ⟨by omega, by omega⟩) rfl gX1_set_X1_put rfl hdX1_put rfl ⟨Nat.le_of_ble_eq_true rfl, Nat.le_of_ble_eq_true rfl⟩ (Nat.le_of_ble_eq_true rfl) (Nat.le_of_ble_eq_true rfl) rfl rfl dX1_set_123 (fun _ _ h => False.elim h) (fun r123 Z123 hp123 => ?_)
              obtain ⟨rfl, rfl⟩ := hp123
              refine j_iinc hJ (by decide) dX1_set_126 rfl ?_
              refine j_goto (tgt := 72) hJ (by decide) dX1_set_129 ?_
              refine j_re (lv' := [(0, _), (1, _), (2, _), (4, _), (5, _), (6, _)]) hJ ?_ ⟨rfl, rfl, rfl, rfl, rfl, rfl, trivial⟩
              refine j_iload hJ dX1_set_72 rfl ?_
              refine j_iconst hJ dX1_set_74 ?_
              refine j_icmp_ge (tgt := 132) hJ (by decide) ⟨by omega, by omega⟩ ⟨by omega, by omega⟩ dX1_set_75 (fun h75 => absurd h75 (by decide)) (fun h75 => ?_)
              refine j_lload_n hJ dX1_set_78 rfl ?_
              refine j_bipush hJ (by decide) dX1_set_79 ?_
              refine j_iload hJ dX1_set_81 rfl ?_
              refine j_imul hJ dX1_set_83 ?_
              refine j_lshr (n := 16) hJ (by decide) ⟨by omega, by omega⟩ dX1_set_84 ?_
              refine j_l2i hJ dX1_set_85 ?_
              refine j_ldc (v := 65535) (z := 65535) hJ (by decide) (by decide +kernel) dX1_set_86 ?_
              refine j_iand hJ (iZ_low16 _) dX1_set_88 ?_
              refine j_istore hJ (by decide) dX1_set_89 ?_
              refine j_lload_n hJ dX1_set_91 rfl ?_
              refine j_lconst (z := 0) hJ (by decide) dX1_set_92 ?_
              refine j_lcmp_ge (tgt := 114) hJ (by decide) ⟨by omega, by omega⟩ ⟨by omega, by omega⟩ dX1_set_93 dX1_set_94 (fun h93 => ?_) (fun h93 => ?_)
              · refine j_aload_n hJ dX1_set_114 rfl ?_
                refine j_iload_n hJ dX1_set_115 rfl ?_
                refine j_iload hJ dX1_set_116 rfl ?_
                refine j_iload hJ dX1_set_118 rfl ?_
                refine j_ldc (v := 65535) (z := 65535) hJ (by decide) (by decide +kernel) dX1_set_120 ?_
                refine j_iand hJ (iZ_low16 _) dX1_set_122 ?_
                refine j_callV hJ (kX1_put l D cI a _ _ _ _ ⟨by omega, by omega⟩ ⟨by omega, by omega⟩) rfl gX1_set_X1_put rfl hdX1_put rfl ⟨Nat.le_of_ble_eq_true rfl, Nat.le_of_ble_eq_true rfl⟩ (Nat.le_of_ble_eq_true rfl) (Nat.le_of_ble_eq_true rfl) rfl rfl dX1_set_123 (fun _ _ h => False.elim h) (fun r123 Z123 hp123 => ?_)
                obtain ⟨rfl, rfl⟩ := hp123
                refine j_iinc hJ (by decide) dX1_set_126 rfl ?_
                refine j_goto (tgt := 72) hJ (by decide) dX1_set_129 ?_
                refine j_re (lv' := [(0, _), (1, _), (2, _), (4, _), (5, _), (6, _)]) hJ ?_ ⟨rfl, rfl, rfl, rfl, rfl, rfl, trivial⟩
                refine j_iload hJ dX1_set_72 rfl ?_
                refine j_iconst hJ dX1_set_74 ?_
                refine j_icmp_ge (tgt := 132) hJ (by decide) ⟨by omega, by omega⟩ ⟨by omega, by omega⟩ dX1_set_75 (fun h75 => absurd h75 (by decide)) (fun h75 => ?_)
                refine j_lload_n hJ dX1_set_78 rfl ?_
                refine j_bipush hJ (by decide) dX1_set_79 ?_
                refine j_iload hJ dX1_set_81 rfl ?_
                refine j_imul hJ dX1_set_83 ?_
                refine j_lshr (n := 32) hJ (by decide) ⟨by omega, by omega⟩ dX1_set_84 ?_
                refine j_l2i hJ dX1_set_85 ?_
                refine j_ldc (v := 65535) (z := 65535) hJ (by decide) (by decide +kernel) dX1_set_86 ?_
                refine j_iand hJ (iZ_low16 _) dX1_set_88 ?_
                refine j_istore hJ (by decide) dX1_set_89 ?_
                refine j_lload_n hJ dX1_set_91 rfl ?_
                refine j_lconst (z := 0) hJ (by decide) dX1_set_92 ?_
                refine j_lcmp_ge (tgt := 114) hJ (by decide) ⟨by omega, by omega⟩ ⟨by omega, by omega⟩ dX1_set_93 dX1_set_94 (fun h93 => ?_) (fun h93 => ?_)
                · refine j_aload_n hJ dX1_set_114 rfl ?_
                  refine j_iload_n hJ dX1_set_115 rfl ?_
                  refine j_iload hJ dX1_set_116 rfl ?_
                  refine j_iload hJ dX1_set_118 rfl ?_
                  refine j_ldc (v := 65535) (z := 65535) hJ (by decide) (by decide +kernel) dX1_set_120 ?_
                  refine j_iand hJ (iZ_low16 _) dX1_set_122 ?_
                  refine j_callV hJ (kX1_put l D cI a _ _ _ _ ⟨by omega, by omega⟩ ⟨by omega, by omega⟩) rfl gX1_set_X1_put rfl hdX1_put rfl ⟨Nat.le_of_ble_eq_true rfl, Nat.le_of_ble_eq_true rfl⟩ (Nat.le_of_ble_eq_true rfl) (Nat.le_of_ble_eq_true rfl) rfl rfl dX1_set_123 (fun _ _ h => False.elim h) (fun r123 Z123 hp123 => ?_)
                  obtain ⟨rfl, rfl⟩ := hp123
                  refine j_iinc hJ (by decide) dX1_set_126 rfl ?_
                  refine j_goto (tgt := 72) hJ (by decide) dX1_set_129 ?_
                  refine j_re (lv' := [(0, _), (1, _), (2, _), (4, _), (5, _), (6, _)]) hJ ?_ ⟨rfl, rfl, rfl, rfl, rfl, rfl, trivial⟩
                  refine j_iload hJ dX1_set_72 rfl ?_
                  refine j_iconst hJ dX1_set_74 ?_
                  refine j_icmp_ge (tgt := 132) hJ (by decide) ⟨by omega, by omega⟩ ⟨by omega, by omega⟩ dX1_set_75 (fun h75 => absurd h75 (by decide)) (fun h75 => ?_)
                  refine j_lload_n hJ dX1_set_78 rfl ?_
                  refine j_bipush hJ (by decide) dX1_set_79 ?_
                  refine j_iload hJ dX1_set_81 rfl ?_
                  refine j_imul hJ dX1_set_83 ?_
                  refine j_lshr (n := 48) hJ (by decide) ⟨by omega, by omega⟩ dX1_set_84 ?_
                  refine j_l2i hJ dX1_set_85 ?_
                  refine j_ldc (v := 65535) (z := 65535) hJ (by decide) (by decide +kernel) dX1_set_86 ?_
                  refine j_iand hJ (iZ_low16 _) dX1_set_88 ?_
                  refine j_istore hJ (by decide) dX1_set_89 ?_
                  refine j_lload_n hJ dX1_set_91 rfl ?_
                  refine j_lconst (z := 0) hJ (by decide) dX1_set_92 ?_
                  refine j_lcmp_ge (tgt := 114) hJ (by decide) ⟨by omega, by omega⟩ ⟨by omega, by omega⟩ dX1_set_93 dX1_set_94 (fun h93 => ?_) (fun h93 => ?_)
                  · refine j_aload_n hJ dX1_set_114 rfl ?_
                    refine j_iload_n hJ dX1_set_115 rfl ?_
                    refine j_iload hJ dX1_set_116 rfl ?_
                    refine j_iload hJ dX1_set_118 rfl ?_
                    refine j_ldc (v := 65535) (z := 65535) hJ (by decide) (by decide +kernel) dX1_set_120 ?_
                    refine j_iand hJ (iZ_low16 _) dX1_set_122 ?_
                    refine j_callV hJ (kX1_put l D cI a _ _ _ _ ⟨by omega, by omega⟩ ⟨by omega, by omega⟩) rfl gX1_set_X1_put rfl hdX1_put rfl ⟨Nat.le_of_ble_eq_true rfl, Nat.le_of_ble_eq_true rfl⟩ (Nat.le_of_ble_eq_true rfl) (Nat.le_of_ble_eq_true rfl) rfl rfl dX1_set_123 (fun _ _ h => False.elim h) (fun r123 Z123 hp123 => ?_)
                    obtain ⟨rfl, rfl⟩ := hp123
                    refine j_iinc hJ (by decide) dX1_set_126 rfl ?_
                    refine j_goto (tgt := 72) hJ (by decide) dX1_set_129 ?_
                    refine j_re (lv' := [(0, _), (1, _), (2, _), (4, _), (5, _), (6, _)]) hJ ?_ ⟨rfl, rfl, rfl, rfl, rfl, rfl, trivial⟩
                    refine j_iload hJ dX1_set_72 rfl ?_
                    refine j_iconst hJ dX1_set_74 ?_
                    refine j_icmp_ge (tgt := 132) hJ (by decide) ⟨by omega, by omega⟩ ⟨by omega, by omega⟩ dX1_set_75 (fun h75 => ?_) (fun h75 => absurd h75 (by decide))
                    exact j_vret hJ (Nat.le_of_ble_eq_true rfl) (⟨rfl, hfin _ _ _ _ _ ⟨by omega, by omega⟩ (by have := sg_cases v; omega) ⟨by omega, by omega⟩ ⟨by omega, by omega⟩ ⟨by omega, by omega⟩ ⟨by omega, by omega⟩ (by have := sg_cases v; omega)⟩) dX1_set_132
                  · omega
                · omega
              · omega
            · omega
          · omega
        · omega
      · refine j_iconst hJ dX1_set_40 ?_
        refine j_goto (tgt := 55) hJ (by decide) dX1_set_41 ?_
        refine m_ast_sg hJ ⟨by omega, by omega⟩ dX1_set_55 ?_
        refine j_lload_n hJ dX1_set_56 rfl ?_
        refine j_lconst (z := 0) hJ (by decide) dX1_set_57 ?_
        refine j_lcmp_ge (tgt := 66) hJ (by decide) ⟨by omega, by omega⟩ ⟨by omega, by omega⟩ dX1_set_58 dX1_set_59 (fun h58 => ?_) (fun h58 => ?_)
        · refine j_iconst hJ dX1_set_66 ?_
          refine j_istore hJ (by decide) dX1_set_67 ?_
          refine j_iconst hJ dX1_set_69 ?_
          refine j_istore hJ (by decide) dX1_set_70 ?_
          refine j_re (lv' := [(0, _), (1, _), (2, _), (4, _), (5, _)]) hJ ?_ ⟨rfl, rfl, rfl, rfl, rfl, trivial⟩
          refine j_iload hJ dX1_set_72 rfl ?_
          refine j_iconst hJ dX1_set_74 ?_
          refine j_icmp_ge (tgt := 132) hJ (by decide) ⟨by omega, by omega⟩ ⟨by omega, by omega⟩ dX1_set_75 (fun h75 => absurd h75 (by decide)) (fun h75 => ?_)
          refine j_lload_n hJ dX1_set_78 rfl ?_
          refine j_bipush hJ (by decide) dX1_set_79 ?_
          refine j_iload hJ dX1_set_81 rfl ?_
          refine j_imul hJ dX1_set_83 ?_
          refine j_lshr (n := 0) hJ (by decide) ⟨by omega, by omega⟩ dX1_set_84 ?_
          refine j_l2i hJ dX1_set_85 ?_
          refine j_ldc (v := 65535) (z := 65535) hJ (by decide) (by decide +kernel) dX1_set_86 ?_
          refine j_iand hJ (iZ_low16 _) dX1_set_88 ?_
          refine j_istore hJ (by decide) dX1_set_89 ?_
          refine j_lload_n hJ dX1_set_91 rfl ?_
          refine j_lconst (z := 0) hJ (by decide) dX1_set_92 ?_
          refine j_lcmp_ge (tgt := 114) hJ (by decide) ⟨by omega, by omega⟩ ⟨by omega, by omega⟩ dX1_set_93 dX1_set_94 (fun h93 => ?_) (fun h93 => ?_)
          · refine j_aload_n hJ dX1_set_114 rfl ?_
            refine j_iload_n hJ dX1_set_115 rfl ?_
            refine j_iload hJ dX1_set_116 rfl ?_
            refine j_iload hJ dX1_set_118 rfl ?_
            refine j_ldc (v := 65535) (z := 65535) hJ (by decide) (by decide +kernel) dX1_set_120 ?_
            refine j_iand hJ (iZ_low16 _) dX1_set_122 ?_
            refine j_callV hJ (kX1_put l D cI a _ _ _ _ ⟨by omega, by omega⟩ ⟨by omega, by omega⟩) rfl gX1_set_X1_put rfl hdX1_put rfl ⟨Nat.le_of_ble_eq_true rfl, Nat.le_of_ble_eq_true rfl⟩ (Nat.le_of_ble_eq_true rfl) (Nat.le_of_ble_eq_true rfl) rfl rfl dX1_set_123 (fun _ _ h => False.elim h) (fun r123 Z123 hp123 => ?_)
            obtain ⟨rfl, rfl⟩ := hp123
            refine j_iinc hJ (by decide) dX1_set_126 rfl ?_
            refine j_goto (tgt := 72) hJ (by decide) dX1_set_129 ?_
            refine j_re (lv' := [(0, _), (1, _), (2, _), (4, _), (5, _), (6, _)]) hJ ?_ ⟨rfl, rfl, rfl, rfl, rfl, rfl, trivial⟩
            refine j_iload hJ dX1_set_72 rfl ?_
            refine j_iconst hJ dX1_set_74 ?_
            refine j_icmp_ge (tgt := 132) hJ (by decide) ⟨by omega, by omega⟩ ⟨by omega, by omega⟩ dX1_set_75 (fun h75 => absurd h75 (by decide)) (fun h75 => ?_)
            refine j_lload_n hJ dX1_set_78 rfl ?_
            refine j_bipush hJ (by decide) dX1_set_79 ?_
            refine j_iload hJ dX1_set_81 rfl ?_
            refine j_imul hJ dX1_set_83 ?_
            refine j_lshr (n := 16) hJ (by decide) ⟨by omega, by omega⟩ dX1_set_84 ?_
            refine j_l2i hJ dX1_set_85 ?_
            refine j_ldc (v := 65535) (z := 65535) hJ (by decide) (by decide +kernel) dX1_set_86 ?_
            refine j_iand hJ (iZ_low16 _) dX1_set_88 ?_
            refine j_istore hJ (by decide) dX1_set_89 ?_
            refine j_lload_n hJ dX1_set_91 rfl ?_
            refine j_lconst (z := 0) hJ (by decide) dX1_set_92 ?_
            refine j_lcmp_ge (tgt := 114) hJ (by decide) ⟨by omega, by omega⟩ ⟨by omega, by omega⟩ dX1_set_93 dX1_set_94 (fun h93 => ?_) (fun h93 => ?_)
            · refine j_aload_n hJ dX1_set_114 rfl ?_
              refine j_iload_n hJ dX1_set_115 rfl ?_
              refine j_iload hJ dX1_set_116 rfl ?_
              refine j_iload hJ dX1_set_118 rfl ?_
              refine j_ldc (v := 65535) (z := 65535) hJ (by decide) (by decide +kernel) dX1_set_120 ?_
              refine j_iand hJ (iZ_low16 _) dX1_set_122 ?_
              refine j_callV hJ (kX1_put l D cI a _ _ _ _ ⟨by omega, by omega⟩ ⟨by omega, by omega⟩) rfl gX1_set_X1_put rfl hdX1_put rfl ⟨Nat.le_of_ble_eq_true rfl, Nat.le_of_ble_eq_true rfl⟩ (Nat.le_of_ble_eq_true rfl) (Nat.le_of_ble_eq_true rfl) rfl rfl dX1_set_123 (fun _ _ h => False.elim h) (fun r123 Z123 hp123 => ?_)
              obtain ⟨rfl, rfl⟩ := hp123
              refine j_iinc hJ (by decide) dX1_set_126 rfl ?_
              refine j_goto (tgt := 72) hJ (by decide) dX1_set_129 ?_
              refine j_re (lv' := [(0, _), (1, _), (2, _), (4, _), (5, _), (6, _)]) hJ ?_ ⟨rfl, rfl, rfl, rfl, rfl, rfl, trivial⟩
              refine j_iload hJ dX1_set_72 rfl ?_
              refine j_iconst hJ dX1_set_74 ?_
              refine j_icmp_ge (tgt := 132) hJ (by decide) ⟨by omega, by omega⟩ ⟨by omega, by omega⟩ dX1_set_75 (fun h75 => absurd h75 (by decide)) (fun h75 => ?_)
              refine j_lload_n hJ dX1_set_78 rfl ?_
              refine j_bipush hJ (by decide) dX1_set_79 ?_
              refine j_iload hJ dX1_set_81 rfl ?_
              refine j_imul hJ dX1_set_83 ?_
              refine j_lshr (n := 32) hJ (by decide) ⟨by omega, by omega⟩ dX1_set_84 ?_
              refine j_l2i hJ dX1_set_85 ?_
              refine j_ldc (v := 65535) (z := 65535) hJ (by decide) (by decide +kernel) dX1_set_86 ?_
              refine j_iand hJ (iZ_low16 _) dX1_set_88 ?_
              refine j_istore hJ (by decide) dX1_set_89 ?_
              refine j_lload_n hJ dX1_set_91 rfl ?_
              refine j_lconst (z := 0) hJ (by decide) dX1_set_92 ?_
              refine j_lcmp_ge (tgt := 114) hJ (by decide) ⟨by omega, by omega⟩ ⟨by omega, by omega⟩ dX1_set_93 dX1_set_94 (fun h93 => ?_) (fun h93 => ?_)
              · refine j_aload_n hJ dX1_set_114 rfl ?_
                refine j_iload_n hJ dX1_set_115 rfl ?_
                refine j_iload hJ dX1_set_116 rfl ?_
                refine j_iload hJ dX1_set_118 rfl ?_
                refine j_ldc (v := 65535) (z := 65535) hJ (by decide) (by decide +kernel) dX1_set_120 ?_
                refine j_iand hJ (iZ_low16 _) dX1_set_122 ?_
                refine j_callV hJ (kX1_put l D cI a _ _ _ _ ⟨by omega, by omega⟩ ⟨by omega, by omega⟩) rfl gX1_set_X1_put rfl hdX1_put rfl ⟨Nat.le_of_ble_eq_true rfl, Nat.le_of_ble_eq_true rfl⟩ (Nat.le_of_ble_eq_true rfl) (Nat.le_of_ble_eq_true rfl) rfl rfl dX1_set_123 (fun _ _ h => False.elim h) (fun r123 Z123 hp123 => ?_)
                obtain ⟨rfl, rfl⟩ := hp123
                refine j_iinc hJ (by decide) dX1_set_126 rfl ?_
                refine j_goto (tgt := 72) hJ (by decide) dX1_set_129 ?_
                refine j_re (lv' := [(0, _), (1, _), (2, _), (4, _), (5, _), (6, _)]) hJ ?_ ⟨rfl, rfl, rfl, rfl, rfl, rfl, trivial⟩
                refine j_iload hJ dX1_set_72 rfl ?_
                refine j_iconst hJ dX1_set_74 ?_
                refine j_icmp_ge (tgt := 132) hJ (by decide) ⟨by omega, by omega⟩ ⟨by omega, by omega⟩ dX1_set_75 (fun h75 => absurd h75 (by decide)) (fun h75 => ?_)
                refine j_lload_n hJ dX1_set_78 rfl ?_
                refine j_bipush hJ (by decide) dX1_set_79 ?_
                refine j_iload hJ dX1_set_81 rfl ?_
                refine j_imul hJ dX1_set_83 ?_
                refine j_lshr (n := 48) hJ (by decide) ⟨by omega, by omega⟩ dX1_set_84 ?_
                refine j_l2i hJ dX1_set_85 ?_
                refine j_ldc (v := 65535) (z := 65535) hJ (by decide) (by decide +kernel) dX1_set_86 ?_
                refine j_iand hJ (iZ_low16 _) dX1_set_88 ?_
                refine j_istore hJ (by decide) dX1_set_89 ?_
                refine j_lload_n hJ dX1_set_91 rfl ?_
                refine j_lconst (z := 0) hJ (by decide) dX1_set_92 ?_
                refine j_lcmp_ge (tgt := 114) hJ (by decide) ⟨by omega, by omega⟩ ⟨by omega, by omega⟩ dX1_set_93 dX1_set_94 (fun h93 => ?_) (fun h93 => ?_)
                · refine j_aload_n hJ dX1_set_114 rfl ?_
                  refine j_iload_n hJ dX1_set_115 rfl ?_
                  refine j_iload hJ dX1_set_116 rfl ?_
                  refine j_iload hJ dX1_set_118 rfl ?_
                  refine j_ldc (v := 65535) (z := 65535) hJ (by decide) (by decide +kernel) dX1_set_120 ?_
                  refine j_iand hJ (iZ_low16 _) dX1_set_122 ?_
                  refine j_callV hJ (kX1_put l D cI a _ _ _ _ ⟨by omega, by omega⟩ ⟨by omega, by omega⟩) rfl gX1_set_X1_put rfl hdX1_put rfl ⟨Nat.le_of_ble_eq_true rfl, Nat.le_of_ble_eq_true rfl⟩ (Nat.le_of_ble_eq_true rfl) (Nat.le_of_ble_eq_true rfl) rfl rfl dX1_set_123 (fun _ _ h => False.elim h) (fun r123 Z123 hp123 => ?_)
                  obtain ⟨rfl, rfl⟩ := hp123
                  refine j_iinc hJ (by decide) dX1_set_126 rfl ?_
                  refine j_goto (tgt := 72) hJ (by decide) dX1_set_129 ?_
                  refine j_re (lv' := [(0, _), (1, _), (2, _), (4, _), (5, _), (6, _)]) hJ ?_ ⟨rfl, rfl, rfl, rfl, rfl, rfl, trivial⟩
                  refine j_iload hJ dX1_set_72 rfl ?_
                  refine j_iconst hJ dX1_set_74 ?_
                  refine j_icmp_ge (tgt := 132) hJ (by decide) ⟨by omega, by omega⟩ ⟨by omega, by omega⟩ dX1_set_75 (fun h75 => ?_) (fun h75 => absurd h75 (by decide))
                  exact j_vret hJ (Nat.le_of_ble_eq_true rfl) (⟨rfl, hfin _ _ _ _ _ ⟨by omega, by omega⟩ (by have := sg_cases v; omega) ⟨by omega, by omega⟩ ⟨by omega, by omega⟩ ⟨by omega, by omega⟩ ⟨by omega, by omega⟩ (by have := sg_cases v; omega)⟩) dX1_set_132
                · omega
              · omega
            · omega
          · omega
        · omega
end M8
