theorem alg1 {A C F S W H y c t P Q : Int} (h1 : A + c * (P * Q) = C + F * S * P) (h2 : F * W + H + c = y) : A + (y - 4294967296 * t - H) * (P * Q) + t * (P * Q * 4294967296) = C + F * (S + W * Q) * P := by
  subst h2
  grind
section X4
variable (l : Launch) (D : va_G) (cI cO : ClassId) (a : Nat → Nat) (Z : ZZ)
set_option maxRecDepth 20000 in
theorem kX0_addSizes (g : Nat → Int) (hI : XI Z g) (r1 r2 : Int) (h1 : 0 ≤ r1 ∧ r1 < 12) (h2 : 0 ≤ r2 ∧ r2 < 12) : Ct l D (tX cI cO) (wX cI cO a) yX0_addSizes wsX0_addSizes 1 0 30 [.ref (a 0), .int (iZ r1), .int (iZ r2)] Z (fun v Z' => v = none ∧ ∃ h, Z' = zrw Z 2 513 h ∧ dgs 4294967296 513 h ∧ vs 4294967296 h 513 = ((g r1.toNat).natAbs : Int) + ((g r2.toNat).natAbs : Int)) nX := by
  refine Ct.of (cc := cX0_addSizes) (maxL := 9) (ret := none) rfl (by decide) rfl (Nat.le_of_ble_eq_true rfl) (fun J hJ => ?_)
  have hin : ∀ w ∈ u_ws RX0 TX0 6, w ∈ wsX0_addSizes := by decide +kernel
  have hlow : Jvm.Cond.constantLong RX0 108 4294967295 ∈ wsX0_addSizes := by decide +kernel
  obtain ⟨d1, v1, s1, c1⟩ := hI.2 r1.toNat (by omega)
  obtain ⟨d2, v2, s2, c2⟩ := hI.2 r2.toNat (by omega)
  have l1 := lenr_le (Z (r1.toNat + 5)) 512
  have l2 := lenr_le (Z (r2.toNat + 5)) 512
  have z1 := lenr_zero (Z (r1.toNat + 5)) 512
  have z2 := lenr_zero (Z (r2.toNat + 5)) 512
  generalize hN1 : lenr (Z (r1.toNat + 5)) 512 = n1 at c1 l1 z1
  generalize hN2 : lenr (Z (r2.toNat + 5)) 512 = n2 at c2 l2 z2
  obtain ⟨N, hN⟩ : ∃ N : Nat, (n1 < n2 ∧ N = n2) ∨ (n2 ≤ n1 ∧ N = n1) := by
    rcases Nat.lt_or_ge n1 n2 with q | q
    · exact ⟨n2, Or.inl ⟨q, rfl⟩⟩
    · exact ⟨n1, Or.inr ⟨q, rfl⟩⟩
  have w1 : vs 4294967296 (Z (r1.toNat + 5)) N = ((g r1.toNat).natAbs : Int) := by rw [← v1]; exact (vs_top (by omega) (fun i q1 q2 => z1 i (by omega) q2)).symm
  have w2 : vs 4294967296 (Z (r2.toNat + 5)) N = ((g r2.toNat).natAbs : Int) := by rw [← v2]; exact (vs_top (by omega) (fun i q1 q2 => z2 i (by omega) q2)).symm
  have loop : ∀ (m n : Nat) (f : Nat → Int) (c : Int), n + m = N → dgs 4294967296 n f → (c = 0 ∨ c = 1) → vs 4294967296 f n + c * 4294967296 ^ n = vs 4294967296 (Z (r1.toNat + 5)) n + vs 4294967296 (Z (r2.toNat + 5)) n → J (zrw (zrw Z 2 513 (fun _ => 0)) 2 n f) 0 30 [(0, .ref (a 0)), (1, .int (iZ r1)), (2, .int (iZ r2)), (3, .int (iZ (N : Int))), (4, .long (lZ c)), (6, .int (iZ n))] [] := by
    intro m
    induction m with
    | zero =>
      intro n f c hm hd hc hv
      have hn : n = N := by omega
      subst hn
      obtain ⟨h, p1, p2, p3, p4⟩ := res_pack (Z := Z) (n := n + 1) (f := fset f n (c % 4294967296)) (by omega) (dgs_push hd ⟨by omega, by omega⟩)
      refine j_iload hJ dX0_addSizes_30 rfl ?_
      refine j_iload_n hJ dX0_addSizes_32 rfl ?_
      refine j_icmp_ge (tgt := 93) hJ (by decide) ⟨by omega, by omega⟩ ⟨by omega, by omega⟩ dX0_addSizes_33 (fun h33 => ?_) (fun h33 => ?_)
      · refine j_aload_n hJ dX0_addSizes_93 rfl ?_
        refine x_result hJ hin (by decide +kernel) dX0_addSizes_94 ?_
        refine j_iload_n hJ dX0_addSizes_97 rfl ?_
        refine j_lload hJ dX0_addSizes_98 rfl ?_
        refine j_l2w hJ dX0_addSizes_100 ?_
        refine x_ast_r hJ ⟨by omega, by omega⟩ dX0_addSizes_101 ?_
        exact j_vret hJ (Nat.le_of_ble_eq_true rfl) (⟨rfl, h, by rw [show ((n : Nat) : Int).toNat = n by omega, zrw_push, p1], p2, by rw [p3, vs_push, show c % 4294967296 = c by omega]; omega⟩) dX0_addSizes_102
      · omega
    | succ m ih =>
      intro n f c hm hd hc hv
      have q1 := d1 n (by omega)
      have q2 := d2 n (by omega)
      have e1 : zrw (zrw Z 2 513 (fun _ => 0)) 2 n f (r1.toNat + 5) = Z (r1.toNat + 5) := by rw [zrw_off (by omega), zrw_off (by omega)]
      have e2 : zrw (zrw Z 2 513 (fun _ => 0)) 2 n f (r2.toNat + 5) = Z (r2.toNat + 5) := by rw [zrw_off (by omega), zrw_off (by omega)]
      have e3 : ((n : Nat) : Int).toNat = n := by omega
      refine j_iload hJ dX0_addSizes_30 rfl ?_
      refine j_iload_n hJ dX0_addSizes_32 rfl ?_
      refine j_icmp_ge (tgt := 93) hJ (by decide) ⟨by omega, by omega⟩ ⟨by omega, by omega⟩ dX0_addSizes_33 (fun h33 => ?_) (fun h33 => ?_)
      · omega
      · refine j_aload_n hJ dX0_addSizes_36 rfl ?_
        refine x_words hJ hin (by decide +kernel) dX0_addSizes_37 ?_
        refine j_iload_n hJ dX0_addSizes_40 rfl ?_
        refine x_row hJ ⟨by omega, by omega⟩ dX0_addSizes_41 ?_
        refine j_iload hJ dX0_addSizes_42 rfl ?_
        refine x_ald_w hJ (by omega) ⟨by omega, by omega⟩ dX0_addSizes_44 ?_
        rw [e1, e3]
        refine j_loww hJ hlow ⟨by omega, by omega⟩ dX0_addSizes_45 dX0_addSizes_46 dX0_addSizes_49 ?_
        refine j_aload_n hJ dX0_addSizes_50 rfl ?_
        refine x_words hJ hin (by decide +kernel) dX0_addSizes_51 ?_
        refine j_iload_n hJ dX0_addSizes_54 rfl ?_
        refine x_row hJ ⟨by omega, by omega⟩ dX0_addSizes_55 ?_
        refine j_iload hJ dX0_addSizes_56 rfl ?_
        refine x_ald_w hJ (by omega) ⟨by omega, by omega⟩ dX0_addSizes_58 ?_
        rw [e2, e3]
        refine j_loww hJ hlow ⟨by omega, by omega⟩ dX0_addSizes_59 dX0_addSizes_60 dX0_addSizes_63 ?_
        refine j_ladd hJ dX0_addSizes_64 ?_
        refine j_lload hJ dX0_addSizes_65 rfl ?_
        refine j_ladd hJ dX0_addSizes_67 ?_
        refine j_lstore hJ (by decide) dX0_addSizes_68 ?_
        refine j_aload_n hJ dX0_addSizes_70 rfl ?_
        refine x_result hJ hin (by decide +kernel) dX0_addSizes_71 ?_
        refine j_iload hJ dX0_addSizes_74 rfl ?_
        refine j_lload hJ dX0_addSizes_76 rfl ?_
        refine j_l2w hJ dX0_addSizes_78 ?_
        refine x_ast_r hJ ⟨by omega, by omega⟩ dX0_addSizes_79 ?_
        rw [e3, zrw_push]
        refine j_lload hJ dX0_addSizes_80 rfl ?_
        refine j_bipush hJ (by decide) dX0_addSizes_82 ?_
        refine j_lushr (n := 32) hJ (by decide) dX0_addSizes_84 ?_
        refine j_lstore hJ (by decide) dX0_addSizes_85 ?_
        refine j_iinc hJ (by decide) dX0_addSizes_87 rfl ?_
        refine j_goto (tgt := 30) hJ (by decide) dX0_addSizes_90 ?_
        refine j_re hJ (ih (n + 1) _ ((Z (r1.toNat + 5) n + Z (r2.toNat + 5) n + c) / 4294967296) (by omega) (dgs_push hd ⟨by omega, by omega⟩) (by omega) ?_) ⟨rfl, rfl, rfl, rfl, by show some (Value.long (lZ ((Z (r1.toNat + 5) n + Z (r2.toNat + 5) n + c) % 18446744073709551616 / ((2 ^ 32 : Nat) : Int)))) = _; rw [show (Z (r1.toNat + 5) n + Z (r2.toNat + 5) n + c) % 18446744073709551616 / ((2 ^ 32 : Nat) : Int) = (Z (r1.toNat + 5) n + Z (r2.toNat + 5) n + c) / 4294967296 by omega], rfl, trivial⟩
        rw [vs_push, vs_s, vs_s, pw_s]
        have hw : (Z (r1.toNat + 5) n + Z (r2.toNat + 5) n + c) % 4294967296 = (Z (r1.toNat + 5) n + Z (r2.toNat + 5) n + c) - 4294967296 * ((Z (r1.toNat + 5) n + Z (r2.toNat + 5) n + c) / 4294967296) := by omega
        rw [hw]
        grind
  have y0 : zrw Z 2 513 (fun _ => 0) 0 = Z 0 := zrw_off (by omega)
  refine j_aload_n hJ dX0_addSizes_0 rfl ?_
  refine x_result hJ hin (by decide +kernel) dX0_addSizes_1 ?_
  refine j_iconst hJ dX0_addSizes_4 ?_
  refine x_fill hJ (j := 2) (N := 513) (by decide) rfl gX0_addSizes_J7_fill_53178 ⟨Nat.le_of_ble_eq_true rfl, Nat.le_of_ble_eq_true rfl⟩ (Nat.le_of_ble_eq_true rfl) (Nat.le_of_ble_eq_true rfl) dX0_addSizes_5 ?_
  refine j_aload_n hJ dX0_addSizes_8 rfl ?_
  refine x_counts hJ hin (by decide +kernel) dX0_addSizes_9 ?_
  refine j_iload_n hJ dX0_addSizes_12 rfl ?_
  refine x_ald_c hJ ⟨by omega, by omega⟩ dX0_addSizes_13 ?_
  rw [y0, c1]
  refine j_aload_n hJ dX0_addSizes_14 rfl ?_
  refine x_counts hJ hin (by decide +kernel) dX0_addSizes_15 ?_
  refine j_iload_n hJ dX0_addSizes_18 rfl ?_
  refine x_ald_c hJ ⟨by omega, by omega⟩ dX0_addSizes_19 ?_
  rw [y0, c2]
  refine j_max (z := (N : Int)) hJ ⟨by omega, by omega⟩ ⟨by omega, by omega⟩ (by omega) (by decide +kernel) (by decide +kernel) (by decide +kernel) (by decide +kernel) (Nat.le_of_ble_eq_true rfl) (Nat.le_of_ble_eq_true rfl) (Nat.le_of_ble_eq_true rfl) dX0_addSizes_20 ?_
  refine j_istore_n hJ (by decide) dX0_addSizes_23 ?_
  refine j_lconst (z := 0) hJ (by decide) dX0_addSizes_24 ?_
  refine j_lstore hJ (by decide) dX0_addSizes_25 ?_
  refine j_iconst hJ dX0_addSizes_27 ?_
  refine j_istore hJ (by decide) dX0_addSizes_28 ?_
  have h9 := loop N 0 (fun _ => 0) 0 (by omega) (dgs_0 _ _) (Or.inl rfl) (by show (0 : Int) + 0 * 4294967296 ^ 0 = 0 + 0; decide)
  rw [zrw_0] at h9
  exact j_re hJ h9 ⟨rfl, rfl, rfl, rfl, rfl, rfl, trivial⟩
set_option maxRecDepth 20000 in
theorem kX0_subtractSizes (g : Nat → Int) (hI : XI Z g) (r1 r2 : Int) (h1 : 0 ≤ r1 ∧ r1 < 12) (h2 : 0 ≤ r2 ∧ r2 < 12) (hle : ((g r2.toNat).natAbs : Int) ≤ ((g r1.toNat).natAbs : Int)) : Ct l D (tX cI cO) (wX cI cO a) yX0_subtractSizes wsX0_subtractSizes 1 0 23 [.ref (a 0), .int (iZ r1), .int (iZ r2)] Z (fun v Z' => v = none ∧ ∃ h, Z' = zrw Z 2 513 h ∧ dgs 4294967296 513 h ∧ vs 4294967296 h 513 = ((g r1.toNat).natAbs : Int) - ((g r2.toNat).natAbs : Int) ∧ h 512 = 0) nX := by
  refine Ct.of (cc := cX0_subtractSizes) (maxL := 8) (ret := none) rfl (by decide) rfl (Nat.le_of_ble_eq_true rfl) (fun J hJ => ?_)
  have hin : ∀ w ∈ u_ws RX0 TX0 6, w ∈ wsX0_subtractSizes := by decide +kernel
  have hlow : Jvm.Cond.constantLong RX0 108 4294967295 ∈ wsX0_subtractSizes := by decide +kernel
  obtain ⟨d1, v1, s1, c1⟩ := hI.2 r1.toNat (by omega)
  obtain ⟨d2, v2, s2, c2⟩ := hI.2 r2.toNat (by omega)
  have l1 := lenr_le (Z (r1.toNat + 5)) 512
  have z1 := lenr_zero (Z (r1.toNat + 5)) 512
  have hl2 : lenr (Z (r2.toNat + 5)) 512 ≤ lenr (Z (r1.toNat + 5)) 512 := (lenr_iff (B := 4294967296) (by decide) d2).mpr (Int.lt_of_le_of_lt (by rw [v2]; exact hle) (by rw [← v1]; exact lenr_lt (by decide) d1))
  have z2 := lenr_zero (Z (r2.toNat + 5)) 512
  generalize hN1 : lenr (Z (r1.toNat + 5)) 512 = N at c1 l1 z1 hl2
  have w1 : vs 4294967296 (Z (r1.toNat + 5)) N = ((g r1.toNat).natAbs : Int) := by rw [← v1]; exact (vs_top (by omega) (fun i q1 q2 => z1 i (by omega) q2)).symm
  have w2 : vs 4294967296 (Z (r2.toNat + 5)) N = ((g r2.toNat).natAbs : Int) := by rw [← v2]; exact (vs_top (by omega) (fun i q1 q2 => z2 i (by omega) q2)).symm
  have y0 : ∀ n f, zrw (zrw Z 2 513 (fun _ => 0)) 2 n f 0 = Z 0 := fun n f => by rw [zrw_off (by omega), zrw_off (by omega)]
  have loop : ∀ (m n : Nat) (f : Nat → Int) (c : Int), n + m = N → dgs 4294967296 n f → (c = 0 ∨ c = 1) → vs 4294967296 f n = vs 4294967296 (Z (r1.toNat + 5)) n - vs 4294967296 (Z (r2.toNat + 5)) n + c * 4294967296 ^ n → J (zrw (zrw Z 2 513 (fun _ => 0)) 2 n f) 0 13 [(0, .ref (a 0)), (1, .int (iZ r1)), (2, .int (iZ r2)), (3, .long (lZ c)), (5, .int (iZ n))] [] := by
    intro m
    induction m with
    | zero =>
      intro n f c hm hd hc hv
      have hn : n = N := by omega
      subst hn
      have hlt := vs_lt (B := 4294967296) (by decide) hd
      have hc0 : c = 0 := by
        rcases hc with q | q
        · exact q
        · rw [q] at hv; omega
      rw [hc0] at hv
      obtain ⟨h, p1, p2, p3, p4⟩ := res_pack (Z := Z) (n := n) (f := f) (by omega) hd
      refine j_iload hJ dX0_subtractSizes_13 rfl ?_
      refine j_aload_n hJ dX0_subtractSizes_15 rfl ?_
      refine x_counts hJ hin (by decide +kernel) dX0_subtractSizes_16 ?_
      refine j_iload_n hJ dX0_subtractSizes_19 rfl ?_
      refine x_ald_c hJ ⟨by omega, by omega⟩ dX0_subtractSizes_20 ?_
      rw [y0, c1]
      refine j_icmp_ge (tgt := 86) hJ (by decide) ⟨by omega, by omega⟩ ⟨by omega, by omega⟩ dX0_subtractSizes_21 (fun h21 => ?_) (fun h21 => ?_)
      · exact j_vret hJ (Nat.le_of_ble_eq_true rfl) (⟨rfl, h, p1, p2, by rw [p3]; omega, p4 512 (by omega) (by omega)⟩) dX0_subtractSizes_86
      · omega
    | succ m ih =>
      intro n f c hm hd hc hv
      have q1 := d1 n (by omega)
      have q2 := d2 n (by omega)
      have e1 : zrw (zrw Z 2 513 (fun _ => 0)) 2 n f (r1.toNat + 5) = Z (r1.toNat + 5) := by rw [zrw_off (by omega), zrw_off (by omega)]
      have e2 : zrw (zrw Z 2 513 (fun _ => 0)) 2 n f (r2.toNat + 5) = Z (r2.toNat + 5) := by rw [zrw_off (by omega), zrw_off (by omega)]
      have e3 : ((n : Nat) : Int).toNat = n := by omega
      refine j_iload hJ dX0_subtractSizes_13 rfl ?_
      refine j_aload_n hJ dX0_subtractSizes_15 rfl ?_
      refine x_counts hJ hin (by decide +kernel) dX0_subtractSizes_16 ?_
      refine j_iload_n hJ dX0_subtractSizes_19 rfl ?_
      refine x_ald_c hJ ⟨by omega, by omega⟩ dX0_subtractSizes_20 ?_
      rw [y0, c1]
      refine j_icmp_ge (tgt := 86) hJ (by decide) ⟨by omega, by omega⟩ ⟨by omega, by omega⟩ dX0_subtractSizes_21 (fun h21 => ?_) (fun h21 => ?_)
      · omega
      · refine j_aload_n hJ dX0_subtractSizes_24 rfl ?_
        refine x_words hJ hin (by decide +kernel) dX0_subtractSizes_25 ?_
        refine j_iload_n hJ dX0_subtractSizes_28 rfl ?_
        refine x_row hJ ⟨by omega, by omega⟩ dX0_subtractSizes_29 ?_
        refine j_iload hJ dX0_subtractSizes_30 rfl ?_
        refine x_ald_w hJ (by omega) ⟨by omega, by omega⟩ dX0_subtractSizes_32 ?_
        rw [e1, e3]
        refine j_loww hJ hlow ⟨by omega, by omega⟩ dX0_subtractSizes_33 dX0_subtractSizes_34 dX0_subtractSizes_37 ?_
        refine j_aload_n hJ dX0_subtractSizes_38 rfl ?_
        refine x_words hJ hin (by decide +kernel) dX0_subtractSizes_39 ?_
        refine j_iload_n hJ dX0_subtractSizes_42 rfl ?_
        refine x_row hJ ⟨by omega, by omega⟩ dX0_subtractSizes_43 ?_
        refine j_iload hJ dX0_subtractSizes_44 rfl ?_
        refine x_ald_w hJ (by omega) ⟨by omega, by omega⟩ dX0_subtractSizes_46 ?_
        rw [e2, e3]
        refine j_loww hJ hlow ⟨by omega, by omega⟩ dX0_subtractSizes_47 dX0_subtractSizes_48 dX0_subtractSizes_51 ?_
        refine j_lsub hJ dX0_subtractSizes_52 ?_
        refine j_lload_n hJ dX0_subtractSizes_53 rfl ?_
        refine j_lsub hJ dX0_subtractSizes_54 ?_
        refine j_lstore hJ (by decide) dX0_subtractSizes_55 ?_
        refine j_aload_n hJ dX0_subtractSizes_57 rfl ?_
        refine x_result hJ hin (by decide +kernel) dX0_subtractSizes_58 ?_
        refine j_iload hJ dX0_subtractSizes_61 rfl ?_
        refine j_lload hJ dX0_subtractSizes_63 rfl ?_
        refine j_l2w hJ dX0_subtractSizes_65 ?_
        refine x_ast_r hJ ⟨by omega, by omega⟩ dX0_subtractSizes_66 ?_
        rw [e3, zrw_push]
        refine j_lload hJ dX0_subtractSizes_67 rfl ?_
        refine j_lconst (z := 0) hJ (by decide) dX0_subtractSizes_69 ?_
        refine j_lcmp_ge (tgt := 78) hJ (by decide) ⟨by omega, by omega⟩ ⟨by omega, by omega⟩ dX0_subtractSizes_70 dX0_subtractSizes_71 (fun h70 => ?_) (fun h70 => ?_)
        · refine j_lconst (z := 0) hJ (by decide) dX0_subtractSizes_78 ?_
          refine j_lstore_n hJ (by decide) dX0_subtractSizes_79 ?_
          refine j_iinc hJ (by decide) dX0_subtractSizes_80 rfl ?_
          refine j_goto (tgt := 13) hJ (by decide) dX0_subtractSizes_83 ?_
          first | (refine j_re hJ (ih (n + 1) _ 0 (by omega) (dgs_push hd ⟨by omega, by omega⟩) (Or.inl rfl) ?_) ⟨rfl, rfl, rfl, rfl, rfl, trivial⟩; rw [vs_push, vs_s, vs_s, pw_s, hv]; have hw : (Z (r1.toNat + 5) n - Z (r2.toNat + 5) n - c) % 4294967296 = Z (r1.toNat + 5) n - Z (r2.toNat + 5) n - c := (by omega); rw [hw]; grind) | (refine j_re hJ (ih (n + 1) _ 1 (by omega) (dgs_push hd ⟨by omega, by omega⟩) (Or.inr rfl) ?_) ⟨rfl, rfl, rfl, rfl, rfl, trivial⟩; rw [vs_push, vs_s, vs_s, pw_s, hv]; have hw : (Z (r1.toNat + 5) n - Z (r2.toNat + 5) n - c) % 4294967296 = Z (r1.toNat + 5) n - Z (r2.toNat + 5) n - c + 4294967296 := (by omega); rw [hw]; grind)
        · refine j_lconst (z := 1) hJ (by decide) dX0_subtractSizes_74 ?_
          refine j_goto (tgt := 79) hJ (by decide) dX0_subtractSizes_75 ?_
          refine j_lstore_n hJ (by decide) dX0_subtractSizes_79 ?_
          refine j_iinc hJ (by decide) dX0_subtractSizes_80 rfl ?_
          refine j_goto (tgt := 13) hJ (by decide) dX0_subtractSizes_83 ?_
          first | (refine j_re hJ (ih (n + 1) _ 0 (by omega) (dgs_push hd ⟨by omega, by omega⟩) (Or.inl rfl) ?_) ⟨rfl, rfl, rfl, rfl, rfl, trivial⟩; rw [vs_push, vs_s, vs_s, pw_s, hv]; have hw : (Z (r1.toNat + 5) n - Z (r2.toNat + 5) n - c) % 4294967296 = Z (r1.toNat + 5) n - Z (r2.toNat + 5) n - c := (by omega); rw [hw]; grind) | (refine j_re hJ (ih (n + 1) _ 1 (by omega) (dgs_push hd ⟨by omega, by omega⟩) (Or.inr rfl) ?_) ⟨rfl, rfl, rfl, rfl, rfl, trivial⟩; rw [vs_push, vs_s, vs_s, pw_s, hv]; have hw : (Z (r1.toNat + 5) n - Z (r2.toNat + 5) n - c) % 4294967296 = Z (r1.toNat + 5) n - Z (r2.toNat + 5) n - c + 4294967296 := (by omega); rw [hw]; grind)
  refine j_aload_n hJ dX0_subtractSizes_0 rfl ?_
  refine x_result hJ hin (by decide +kernel) dX0_subtractSizes_1 ?_
  refine j_iconst hJ dX0_subtractSizes_4 ?_
  refine x_fill hJ (j := 2) (N := 513) (by decide) rfl gX0_subtractSizes_J7_fill_53178 ⟨Nat.le_of_ble_eq_true rfl, Nat.le_of_ble_eq_true rfl⟩ (Nat.le_of_ble_eq_true rfl) (Nat.le_of_ble_eq_true rfl) dX0_subtractSizes_5 ?_
  refine j_lconst (z := 0) hJ (by decide) dX0_subtractSizes_8 ?_
  refine j_lstore_n hJ (by decide) dX0_subtractSizes_9 ?_
  refine j_iconst hJ dX0_subtractSizes_10 ?_
  refine j_istore hJ (by decide) dX0_subtractSizes_11 ?_
  have h9 := loop N 0 (fun _ => 0) 0 (by omega) (dgs_0 _ _) (Or.inl rfl) (by show (0 : Int) = 0 - 0 + 0 * 4294967296 ^ 0; decide)
  rw [zrw_0] at h9
  exact j_re hJ h9 ⟨rfl, rfl, rfl, rfl, rfl, trivial⟩
set_option maxRecDepth 20000 in
/-- result + factor * row, from word at on, where the result above is 0 -/
theorem kX0_addMultiple (q : Nat) (r2 fa : Int) (h2 : 0 ≤ r2 ∧ r2 < 12) (hf : 0 ≤ fa ∧ fa < 4294967296) (d2 : dgs 4294967296 512 (Z (r2.toNat + 5))) (c2 : Z 0 r2.toNat = (lenr (Z (r2.toNat + 5)) 512 : Int)) (hR : dgs 4294967296 513 (Z 2)) (hq : q + lenr (Z (r2.toNat + 5)) 512 < 513) (hz : Z 2 (q + lenr (Z (r2.toNat + 5)) 512) = 0) : Ct l D (tX cI cO) (wX cI cO a) yX0_addMultiple wsX0_addMultiple 0 0 0 [.ref (a 0), .int (iZ (q : Int)), .int (iZ r2), .long (lZ fa)] Z (fun v Z' => v = none ∧ ∃ h, Z' = zrw Z 2 513 h ∧ dgs 4294967296 513 h ∧ vs 4294967296 h 513 = vs 4294967296 (Z 2) 513 + fa * vs 4294967296 (Z (r2.toNat + 5)) 512 * 4294967296 ^ q ∧ ∀ i, q + lenr (Z (r2.toNat + 5)) 512 < i → i < 513 → h i = Z 2 i) nX := by
  refine Ct.of (cc := cX0_addMultiple) (maxL := 12) (ret := none) rfl (by decide) rfl (Nat.le_of_ble_eq_true rfl) (fun J hJ => ?_)
  have hin : ∀ w ∈ u_ws RX0 TX0 6, w ∈ wsX0_addMultiple := by decide +kernel
  have hlow : Jvm.Cond.constantLong RX0 108 4294967295 ∈ wsX0_addMultiple := by decide +kernel
  have l2 := lenr_le (Z (r2.toNat + 5)) 512
  rw [vs_len 4294967296 (Z (r2.toNat + 5)) 512] at hJ
  generalize hN1 : lenr (Z (r2.toNat + 5)) 512 = N at c2 l2 hq hz hJ
  have bnd : ∀ w y c : Int, 0 ≤ w ∧ w < 4294967296 → 0 ≤ y ∧ y < 4294967296 → 0 ≤ c ∧ c < 4294967296 → 0 ≤ fa * w + y + c ∧ fa * w + y + c < 18446744073709551616 := fun w y c b1 b2 b3 => by
    have p1 := Int.mul_nonneg hf.1 b1.1
    have p2 : fa * w ≤ 4294967295 * 4294967295 := Int.mul_le_mul (by omega) (by omega) b1.1 (by decide)
    omega
  have loop : ∀ (m n : Nat) (h : Nat → Int) (c : Int), n + m = N → dgs 4294967296 513 h → (0 ≤ c ∧ c < 4294967296) → (∀ i, q + n ≤ i → i < 513 → h i = Z 2 i) → vs 4294967296 h 513 + c * 4294967296 ^ (q + n) = vs 4294967296 (Z 2) 513 + fa * vs 4294967296 (Z (r2.toNat + 5)) n * 4294967296 ^ q → J (zrw Z 2 513 h) 0 22 [(0, .ref (a 0)), (1, .int (iZ (q : Int))), (3, .long (lZ fa)), (5, .ref (a (r2.toNat + 7))), (6, .int (iZ (N : Int))), (7, .long (lZ c)), (9, .int (iZ n))] [] := by
    intro m
    induction m with
    | zero =>
      intro n h c hm hd hc hi hv
      have hn : n = N := by omega
      subst hn
      have hz2 := hi (q + n) (by omega) (by omega)
      rw [hz] at hz2
      have e1 : (((q : Nat) : Int) + ((n : Nat) : Int)).toNat = q + n := by omega
      refine j_iload hJ dX0_addMultiple_22 rfl ?_
      refine j_iload hJ dX0_addMultiple_24 rfl ?_
      refine j_icmp_ge (tgt := 86) hJ (by decide) ⟨by omega, by omega⟩ ⟨by omega, by omega⟩ dX0_addMultiple_26 (fun h26 => ?_) (fun h26 => ?_)
      · refine j_aload_n hJ dX0_addMultiple_86 rfl ?_
        refine x_result hJ hin (by decide +kernel) dX0_addMultiple_87 ?_
        refine j_iload_n hJ dX0_addMultiple_90 rfl ?_
        refine j_iload hJ dX0_addMultiple_91 rfl ?_
        refine j_iadd hJ dX0_addMultiple_93 ?_
        refine j_lload hJ dX0_addMultiple_94 rfl ?_
        refine j_l2w hJ dX0_addMultiple_96 ?_
        refine x_ast_r hJ ⟨by omega, by omega⟩ dX0_addMultiple_97 ?_
        exact j_vret hJ (Nat.le_of_ble_eq_true rfl) (⟨rfl, fset h (q + n) c, by rw [e1, zrw_upd (by omega), show c % 4294967296 = c by omega], dgs_upd hd ⟨by omega, by omega⟩, by rw [vs_upd _ (by omega), hz2]; grind, fun i q1 q2 => by rw [fset_ne (by omega)]; exact hi i (by omega) q2⟩) dX0_addMultiple_98
      · omega
    | succ m ih =>
      intro n h c hm hd hc hi hv
      have q1 := d2 n (by omega)
      have q3 := hd (q + n) (by omega)
      have e1 : zrw Z 2 513 h (r2.toNat + 5) = Z (r2.toNat + 5) := zrw_off (by omega)
      have e2 : zrw Z 2 513 h 2 (q + n) = h (q + n) := zrw_in (by omega)
      have e3 : ((n : Nat) : Int).toNat = n := by omega
      have e4 : (((q : Nat) : Int) + ((n : Nat) : Int)).toNat = q + n := by omega
      have hb := bnd _ _ _ q1 q3 hc
      generalize hy : fa * Z (r2.toNat + 5) n + h (q + n) + c = y at hb
      have hy2 : y % 18446744073709551616 / ((2 ^ 32 : Nat) : Int) = y / 4294967296 := by omega
      have hy3 : 0 ≤ y / 4294967296 ∧ y / 4294967296 < 4294967296 := by omega
      refine j_iload hJ dX0_addMultiple_22 rfl ?_
      refine j_iload hJ dX0_addMultiple_24 rfl ?_
      refine j_icmp_ge (tgt := 86) hJ (by decide) ⟨by omega, by omega⟩ ⟨by omega, by omega⟩ dX0_addMultiple_26 (fun h26 => ?_) (fun h26 => ?_)
      · omega
      · refine j_lload_n hJ dX0_addMultiple_29 rfl ?_
        refine j_aload hJ dX0_addMultiple_30 rfl ?_
        refine j_iload hJ dX0_addMultiple_32 rfl ?_
        refine x_ald_w hJ (by omega) ⟨by omega, by omega⟩ dX0_addMultiple_34 ?_
        rw [e1, e3]
        refine j_loww hJ hlow ⟨by omega, by omega⟩ dX0_addMultiple_35 dX0_addMultiple_36 dX0_addMultiple_39 ?_
        refine j_lmul hJ dX0_addMultiple_40 ?_
        refine j_aload_n hJ dX0_addMultiple_41 rfl ?_
        refine x_result hJ hin (by decide +kernel) dX0_addMultiple_42 ?_
        refine j_iload_n hJ dX0_addMultiple_45 rfl ?_
        refine j_iload hJ dX0_addMultiple_46 rfl ?_
        refine j_iadd hJ dX0_addMultiple_48 ?_
        refine x_ald_r hJ ⟨by omega, by omega⟩ dX0_addMultiple_49 ?_
        rw [e4, e2]
        refine j_loww hJ hlow ⟨by omega, by omega⟩ dX0_addMultiple_50 dX0_addMultiple_51 dX0_addMultiple_54 ?_
        refine j_ladd hJ dX0_addMultiple_55 ?_
        refine j_lload hJ dX0_addMultiple_56 rfl ?_
        refine j_ladd hJ dX0_addMultiple_58 ?_
        rw [hy]
        refine j_lstore hJ (by decide) dX0_addMultiple_59 ?_
        refine j_aload_n hJ dX0_addMultiple_61 rfl ?_
        refine x_result hJ hin (by decide +kernel) dX0_addMultiple_62 ?_
        refine j_iload_n hJ dX0_addMultiple_65 rfl ?_
        refine j_iload hJ dX0_addMultiple_66 rfl ?_
        refine j_iadd hJ dX0_addMultiple_68 ?_
        refine j_lload hJ dX0_addMultiple_69 rfl ?_
        refine j_l2w hJ dX0_addMultiple_71 ?_
        refine x_ast_r hJ ⟨by omega, by omega⟩ dX0_addMultiple_72 ?_
        rw [e4, zrw_upd (by omega)]
        refine j_lload hJ dX0_addMultiple_73 rfl ?_
        refine j_bipush hJ (by decide) dX0_addMultiple_75 ?_
        refine j_lushr (n := 32) hJ (by decide) dX0_addMultiple_77 ?_
        refine j_lstore hJ (by decide) dX0_addMultiple_78 ?_
        refine j_iinc hJ (by decide) dX0_addMultiple_80 rfl ?_
        refine j_goto (tgt := 22) hJ (by decide) dX0_addMultiple_83 ?_
        refine j_re hJ (ih (n + 1) _ (y / 4294967296) (by omega) (dgs_upd hd ⟨by omega, by omega⟩) hy3 (fun i p1 p2 => by rw [fset_ne (by omega)]; exact hi i (by omega) p2) ?_) ⟨rfl, rfl, rfl, rfl, rfl, by show some (Value.long (lZ (y % 18446744073709551616 / ((2 ^ 32 : Nat) : Int)))) = _; rw [hy2], rfl, trivial⟩
        rw [vs_upd _ (by omega), vs_s 4294967296 (Z (r2.toNat + 5)) n, show q + (n + 1) = (q + n) + 1 by omega, pw_s]
        have hw : y % 4294967296 = y - 4294967296 * (y / 4294967296) := by omega
        rw [hw, Int.pow_add]
        rw [Int.pow_add] at hv
        exact alg1 hv hy
  refine j_aload_n hJ dX0_addMultiple_0 rfl ?_
  refine x_words hJ hin (by decide +kernel) dX0_addMultiple_1 ?_
  refine j_iload_n hJ dX0_addMultiple_4 rfl ?_
  refine x_row hJ ⟨by omega, by omega⟩ dX0_addMultiple_5 ?_
  refine j_astore hJ (by decide) dX0_addMultiple_6 ?_
  refine j_aload_n hJ dX0_addMultiple_8 rfl ?_
  refine x_counts hJ hin (by decide +kernel) dX0_addMultiple_9 ?_
  refine j_iload_n hJ dX0_addMultiple_12 rfl ?_
  refine x_ald_c hJ ⟨by omega, by omega⟩ dX0_addMultiple_13 ?_
  rw [c2]
  refine j_istore hJ (by decide) dX0_addMultiple_14 ?_
  refine j_lconst (z := 0) hJ (by decide) dX0_addMultiple_16 ?_
  refine j_lstore hJ (by decide) dX0_addMultiple_17 ?_
  refine j_iconst hJ dX0_addMultiple_19 ?_
  refine j_istore hJ (by decide) dX0_addMultiple_20 ?_
  have h9 := loop N 0 (Z 2) 0 (by omega) hR ⟨by omega, by omega⟩ (fun _ _ _ => rfl) (by show vs 4294967296 (Z 2) 513 + 0 * _ = vs 4294967296 (Z 2) 513 + fa * 0 * 4294967296 ^ q; grind)
  rw [zrw_id (fun _ _ => rfl)] at h9
  exact j_re hJ h9 ⟨rfl, rfl, rfl, rfl, rfl, rfl, rfl, trivial⟩
set_option maxRecDepth 20000 in
theorem kX0_multiplySizes (g : Nat → Int) (hI : XI Z g) (r1 r2 : Int) (h1 : 0 ≤ r1 ∧ r1 < 12) (h2 : 0 ≤ r2 ∧ r2 < 12) (hle : lenr (Z (r1.toNat + 5)) 512 + lenr (Z (r2.toNat + 5)) 512 ≤ 513) : Ct l D (tX cI cO) (wX cI cO a) yX0_multiplySizes wsX0_multiplySizes 1 0 31 [.ref (a 0), .int (iZ r1), .int (iZ r2)] Z (fun v Z' => v = none ∧ ∃ h, Z' = zrw Z 2 513 h ∧ dgs 4294967296 513 h ∧ vs 4294967296 h 513 = ((g r1.toNat).natAbs : Int) * ((g r2.toNat).natAbs : Int)) nX := by
  refine Ct.of (cc := cX0_multiplySizes) (maxL := 4) (ret := none) rfl (by decide) rfl (Nat.le_of_ble_eq_true rfl) (fun J hJ => ?_)
  have hin : ∀ w ∈ u_ws RX0 TX0 6, w ∈ wsX0_multiplySizes := by decide +kernel
  have hlow : Jvm.Cond.constantLong RX0 108 4294967295 ∈ wsX0_multiplySizes := by decide +kernel
  obtain ⟨d1, v1, s1, c1⟩ := hI.2 r1.toNat (by omega)
  obtain ⟨d2, v2, s2, c2⟩ := hI.2 r2.toNat (by omega)
  have l1 := lenr_le (Z (r1.toNat + 5)) 512
  rw [vs_len 4294967296 (Z (r1.toNat + 5)) 512] at v1
  have loop : ∀ (m n : Nat) (h : Nat → Int), n + m = lenr (Z (r1.toNat + 5)) 512 → dgs 4294967296 513 h → (∀ i, n + lenr (Z (r2.toNat + 5)) 512 ≤ i → i < 513 → h i = 0) → vs 4294967296 h 513 = vs 4294967296 (Z (r1.toNat + 5)) n * ((g r2.toNat).natAbs : Int) → J (zrw Z 2 513 h) 0 10 [(0, .ref (a 0)), (1, .int (iZ r1)), (2, .int (iZ r2)), (3, .int (iZ n))] [] := by
    intro m
    induction m with
    | zero =>
      intro n h hm hd hi hv
      have e0 : zrw Z 2 513 h 0 = Z 0 := zrw_off (by omega)
      have hn : n = lenr (Z (r1.toNat + 5)) 512 := by omega
      refine j_iload_n hJ dX0_multiplySizes_10 rfl ?_
      refine j_aload_n hJ dX0_multiplySizes_11 rfl ?_
      refine x_counts hJ hin (by decide +kernel) dX0_multiplySizes_12 ?_
      refine j_iload_n hJ dX0_multiplySizes_15 rfl ?_
      refine x_ald_c hJ ⟨by omega, by omega⟩ dX0_multiplySizes_16 ?_
      rw [e0, c1]
      refine j_icmp_ge (tgt := 45) hJ (by decide) ⟨by omega, by omega⟩ ⟨by omega, by omega⟩ dX0_multiplySizes_17 (fun h17 => ?_) (fun h17 => ?_)
      · exact j_vret hJ (Nat.le_of_ble_eq_true rfl) (⟨rfl, h, rfl, hd, by rw [hv, hn, v1]⟩) dX0_multiplySizes_45
      · omega
    | succ m ih =>
      intro n h hm hd hi hv
      have q1 := d1 n (by omega)
      have e0 : zrw Z 2 513 h 0 = Z 0 := zrw_off (by omega)
      have e1 : zrw Z 2 513 h (r1.toNat + 5) = Z (r1.toNat + 5) := zrw_off (by omega)
      have e2 : zrw Z 2 513 h (r2.toNat + 5) = Z (r2.toNat + 5) := zrw_off (by omega)
      have e4 : ∀ i, i < 513 → zrw Z 2 513 h 2 i = h i := fun i hi => zrw_in hi
      have e3 : ((n : Nat) : Int).toNat = n := by omega
      refine j_iload_n hJ dX0_multiplySizes_10 rfl ?_
      refine j_aload_n hJ dX0_multiplySizes_11 rfl ?_
      refine x_counts hJ hin (by decide +kernel) dX0_multiplySizes_12 ?_
      refine j_iload_n hJ dX0_multiplySizes_15 rfl ?_
      refine x_ald_c hJ ⟨by omega, by omega⟩ dX0_multiplySizes_16 ?_
      rw [e0, c1]
      refine j_icmp_ge (tgt := 45) hJ (by decide) ⟨by omega, by omega⟩ ⟨by omega, by omega⟩ dX0_multiplySizes_17 (fun h17 => ?_) (fun h17 => ?_)
      · omega
      · refine j_aload_n hJ dX0_multiplySizes_20 rfl ?_
        refine j_iload_n hJ dX0_multiplySizes_21 rfl ?_
        refine j_iload_n hJ dX0_multiplySizes_22 rfl ?_
        refine j_aload_n hJ dX0_multiplySizes_23 rfl ?_
        refine x_words hJ hin (by decide +kernel) dX0_multiplySizes_24 ?_
        refine j_iload_n hJ dX0_multiplySizes_27 rfl ?_
        refine x_row hJ ⟨by omega, by omega⟩ dX0_multiplySizes_28 ?_
        refine j_iload_n hJ dX0_multiplySizes_29 rfl ?_
        refine x_ald_w hJ (by omega) ⟨by omega, by omega⟩ dX0_multiplySizes_30 ?_
        rw [e1, e3]
        refine j_loww hJ hlow ⟨by omega, by omega⟩ dX0_multiplySizes_31 dX0_multiplySizes_32 dX0_multiplySizes_35 ?_
        refine j_callV hJ (kX0_addMultiple l D cI cO a (zrw Z 2 513 h) n r2 (Z (r1.toNat + 5) n) h2 q1 (by rw [e2]; exact d2) (by rw [e2, e0]; exact c2) (fun i hi => by rw [e4 i hi]; exact hd i hi) (by rw [e2]; omega) (by rw [e2, e4 _ (by omega)]; exact hi _ (by omega) (by omega))) rfl gX0_multiplySizes_X0_addMultiple rfl hdX0_addMultiple rfl ⟨Nat.le_of_ble_eq_true rfl, Nat.le_of_ble_eq_true rfl⟩ (Nat.le_of_ble_eq_true rfl) (Nat.le_of_ble_eq_true rfl) rfl rfl dX0_multiplySizes_36 (fun _ _ h => False.elim h) (fun r36 Z36 hp36 => ?_)
        obtain ⟨rfl, h5, rfl, hd5, hv5, hi5⟩ := hp36
        rw [e2] at hv5 hi5
        rw [zrw_zrw (Nat.le_refl _)]
        rw [vs_congr e4] at hv5
        refine j_iinc hJ (by decide) dX0_multiplySizes_39 rfl ?_
        refine j_goto (tgt := 10) hJ (by decide) dX0_multiplySizes_42 ?_
        exact j_re hJ (ih (n + 1) h5 (by omega) hd5 (fun i p1 p2 => by rw [hi5 i (by omega) p2, e4 i p2]; exact hi i (by omega) p2) (by rw [hv5, hv, v2, vs_s 4294967296 (Z (r1.toNat + 5)) n]; grind)) ⟨rfl, rfl, rfl, rfl, trivial⟩
  refine j_aload_n hJ dX0_multiplySizes_0 rfl ?_
  refine x_result hJ hin (by decide +kernel) dX0_multiplySizes_1 ?_
  refine j_iconst hJ dX0_multiplySizes_4 ?_
  refine x_fill hJ (j := 2) (N := 513) (by decide) rfl gX0_multiplySizes_J7_fill_53178 ⟨Nat.le_of_ble_eq_true rfl, Nat.le_of_ble_eq_true rfl⟩ (Nat.le_of_ble_eq_true rfl) (Nat.le_of_ble_eq_true rfl) dX0_multiplySizes_5 ?_
  refine j_iconst hJ dX0_multiplySizes_8 ?_
  refine j_istore_n hJ (by decide) dX0_multiplySizes_9 ?_
  exact j_re hJ (loop (lenr (Z (r1.toNat + 5)) 512) 0 (fun _ => 0) (by omega) (fun _ _ => ⟨by show (0 : Int) ≤ 0; decide, by show (0 : Int) < 4294967296; decide⟩) (fun _ _ _ => rfl) (by rw [vs_zero (fun _ _ => rfl)]; show (0 : Int) = 0 * _; omega)) ⟨rfl, rfl, rfl, rfl, trivial⟩
end X4
