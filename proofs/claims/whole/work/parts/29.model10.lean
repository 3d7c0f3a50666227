section M10
variable (l : Launch) (D : va_G) (cI : ClassId) (a : Nat → Nat) (Z : ZZ)
set_option maxRecDepth 20000 in
theorem kX1_multiply (g : Nat → Int) (hI : MI Z g) (r i j : Int) (h0 : i32 r) (h1 : i32 i) (h2 : i32 j) : Ct l D (tM cI) (wM cI a) yX1_multiply wsX1_multiply 3 0 69 [.ref (a 0), .int (iZ r), .int (iZ i), .int (iZ j)] Z (fun v Z' => v = none ∧ Z' 0 0 = (oMul g r i j).1 ∧ MI Z' (oMul g r i j).2) nX := by
  refine Ct.of (cc := cX1_multiply) (maxL := 11) (ret := none) rfl (by decide) rfl (Nat.le_of_ble_eq_true rfl) (fun J hJ => ?_)
  have hin : ∀ w ∈ u_ws RX1 TX1 3, w ∈ wsX1_multiply := by decide +kernel
  unfold oMul at hJ
  by_cases hrg : isRg r ∧ isRg i ∧ isRg j
  · rw [if_pos hrg] at hJ
    obtain ⟨hr, hi, hj⟩ := hrg
    obtain ⟨m1, m2, m3, m4, m5, m6, m7⟩ := mtk_MI hI (i := i.toNat) (j := j.toNat) (by omega) (by omega)
    obtain ⟨t1, t2, t3, t4⟩ := mtk_two hI (i := i.toNat) (j := j.toNat) (by omega) (by omega)
    have g1 := hI.2 i.toNat (by omega)
    have g2 := hI.2 j.toNat (by omega)
    have u1 := sg_mul (g i.toNat)
    have u2 := sg_mul (g j.toNat)
    have s1 := sg_cases (g i.toNat)
    have s2 := sg_cases (g j.toNat)
    generalize hT : mtk Z i.toNat j.toNat = T at m1 m2 m3 m4 m5 m6 m7 t1 t2 t3 t4
    have l1 := lenr_le (T 16) 2100
    have l2 := lenr_le (T 17) 2100
    have n1 : lenr (T 16) 2100 ≤ 1024 := (lenr_iff (B := 65536) (by decide) t1).mpr (by rw [t3]; exact g1.2.2)
    have n2 : lenr (T 17) 2100 ≤ 1024 := (lenr_iff (B := 65536) (by decide) t2).mpr (by rw [t4]; exact g2.2.2)
    have z1 := lenr_zero (T 16) 2100
    have z2 := lenr_zero (T 17) 2100
    have v1 := vs_len 65536 (T 16) 2100
    have v2 := vs_len 65536 (T 17) 2100
    have b1 := lenr_lt (B := 65536) (by decide) t1
    have b2 := lenr_lt (B := 65536) (by decide) t2
    generalize hn : lenr (T 16) 2100 = n at l1 n1 z1 v1 b1
    generalize hm : lenr (T 17) 2100 = m at l2 n2 z2 v2 b2
    have hcol : vs 65536 (fun q => cv (T 16) (T 17) q (q + 1)) (n + m) = vs 65536 (T 16) 2100 * vs 65536 (T 17) 2100 := by
      have e := vs_conv 65536 (T 16) (T 17) (m := m) (N := n + m) (fun q a1 a2 => z2 q a1 (by omega)) n (Nat.le_refl _)
      rw [v1, v2, ← e]
      refine vs_congr (fun q hq => ?_)
      show cv (T 16) (T 17) q (q + 1) = cv (T 16) (T 17) q (min n (q + 1))
      rcases Nat.lt_or_ge n (q + 1) with w | w
      · rw [Nat.min_eq_left (by omega)]
        exact cv_tail (by omega) (fun y a1 a2 => z1 y a1 (by omega))
      · rw [Nat.min_eq_right w]
    have loop : ∀ (t k : Nat) (h : Nat → Int) (c : Int), k + t = n + m → dgs 65536 k h → (0 ≤ c ∧ c < 17592186044416) → vs 65536 h k + c * 65536 ^ k = vs 65536 (fun q => cv (T 16) (T 17) q (q + 1)) k → J (zrw T 14 k h) 0 33 [(0, .ref (a 0)), (1, .int (iZ r)), (4, .int (iZ n)), (5, .int (iZ m)), (6, .long (lZ c)), (8, .int (iZ k))] [] := by
      intro t
      induction t with
      | zero =>
        intro k h c hk hd hc hv
        have hk2 : k = n + m := by omega
        subst hk2
        have hnn := vs_nonneg (B := 65536) (by decide) hd
        have hpp := pw_pos (B := 65536) (by decide) (n + m)
        have q1 := vs_nonneg (B := 65536) (by decide) t1
        have q2 := vs_nonneg (B := 65536) (by decide) t2
        have hlt : vs 65536 (T 16) 2100 * vs 65536 (T 17) 2100 < 65536 ^ (n + m) := by
          rw [Int.pow_add]
          have p1 := Int.mul_le_mul_of_nonneg_right (Int.le_of_lt b1) q2
          have p2 := Int.mul_lt_mul_of_pos_left b2 (pw_pos (B := 65536) (by decide) n)
          omega
        have hc0 : c = 0 := by
          rcases Int.lt_or_le 0 c with q | q
          · have := Int.mul_le_mul_of_nonneg_right (show 1 ≤ c from q) (Int.le_of_lt hpp)
            omega
          · omega
        rw [hc0, hcol, t3, t4] at hv
        have ez : zrw T 14 (n + m) h 1 = T 1 := zrw_off (by omega)
        have hself := zrw_self (Z := T) (j := 14) (n := n + m) (N := 2100) (f := h) (by omega)
        have hdf : dgs 65536 2100 (zrw T 14 (n + m) h 14) := dgs_zrw (m1.1 12 (by omega)) hd
        have hvf : vs 65536 (zrw T 14 (n + m) h 14) 2100 = ((g i.toNat).natAbs : Int) * ((g j.toNat).natAbs : Int) := by
          rw [vs_top (m := n + m) (by omega) (fun q a1 a2 => by rw [zrw_ge a1]; exact m7 q a2), vs_congr (g := h) (fun q hq => zrw_in hq)]
          omega
        have hz : (g i.toNat).sign * (g j.toNat).sign * vs 65536 (zrw T 14 (n + m) h 14) 2100 = g i.toNat * g j.toNat := by
          rw [hvf, ← u1, ← u2, u1, u2]
          grind
        have hsg : (g i.toNat).sign * (g j.toNat).sign = 0 ∨ (g i.toNat).sign * (g j.toNat).sign = 1 ∨ (g i.toNat).sign * (g j.toNat).sign = -1 := by
          rcases s1 with ⟨_, e1, _⟩ | ⟨_, e1, _⟩ | ⟨_, e1, _⟩ <;> rcases s2 with ⟨_, e2, _⟩ | ⟨_, e2, _⟩ | ⟨_, e2, _⟩ <;> rw [e1, e2] <;> decide
        have hs0 : (g i.toNat).sign * (g j.toNat).sign = 0 → vs 65536 (zrw T 14 (n + m) h 14) 2100 = 0 := by
          intro q
          rw [hvf]
          rcases Int.mul_eq_zero.mp q with w | w
          · rw [show ((g i.toNat).natAbs : Int) = 0 by omega]; omega
          · rw [show ((g j.toNat).natAbs : Int) = 0 by omega]; omega
        obtain ⟨w1, w2, w3, w4⟩ := sum_MI m1 m2 hdf hsg hz hs0
        rw [← hself] at w1 w2 w3 w4
        refine j_iload hJ dX1_multiply_33 rfl ?_
        refine j_iload hJ dX1_multiply_35 rfl ?_
        refine j_iload hJ dX1_multiply_37 rfl ?_
        refine j_iadd hJ dX1_multiply_39 ?_
        refine j_icmp_ge (tgt := 142) hJ (by decide) ⟨by omega, by omega⟩ ⟨by omega, by omega⟩ dX1_multiply_40 (fun h40 => ?_) (fun h40 => ?_)
        · refine j_aload_n hJ dX1_multiply_142 rfl ?_
          refine m_sign hJ hin (by decide +kernel) dX1_multiply_143 ?_
          refine j_bipush hJ (by decide) dX1_multiply_146 ?_
          refine j_aload_n hJ dX1_multiply_148 rfl ?_
          refine m_sign hJ hin (by decide +kernel) dX1_multiply_149 ?_
          refine j_bipush hJ (by decide) dX1_multiply_152 ?_
          refine m_ald_sg hJ ⟨by omega, by omega⟩ dX1_multiply_154 ?_
          refine j_aload_n hJ dX1_multiply_155 rfl ?_
          refine m_sign hJ hin (by decide +kernel) dX1_multiply_156 ?_
          refine j_bipush hJ (by decide) dX1_multiply_159 ?_
          refine m_ald_sg hJ ⟨by omega, by omega⟩ dX1_multiply_161 ?_
          rw [ez, show (14 : Int).toNat = 14 from rfl, show (15 : Int).toNat = 15 from rfl, m4, m6, g1.2.1, g2.2.1]
          refine j_imul hJ dX1_multiply_162 ?_
          refine m_ast_sg hJ ⟨by omega, by omega⟩ dX1_multiply_163 ?_
          rw [show (12 : Int).toNat = 12 from rfl]
          refine j_aload_n hJ dX1_multiply_164 rfl ?_
          refine j_iload_n hJ dX1_multiply_165 rfl ?_
          refine j_callV hJ (kX1_give l D cI a _ _ ⟨by omega, by omega⟩ (w1.1 12 (by omega))) rfl gX1_multiply_X1_give rfl hdX1_give rfl ⟨Nat.le_of_ble_eq_true rfl, Nat.le_of_ble_eq_true rfl⟩ (Nat.le_of_ble_eq_true rfl) (Nat.le_of_ble_eq_true rfl) rfl rfl dX1_multiply_166 (fun _ _ h => False.elim h) (fun r166 Z166 hp166 => ?_)
          obtain ⟨rfl, hg⟩ := hp166
          exact j_vret hJ (Nat.le_of_ble_eq_true rfl) (⟨rfl, give_MI w1 hr w3 w4 w2 hg⟩) dX1_multiply_169
        · omega
      | succ t ih =>
        intro k h c hk hd hc hv
        have ea : zrw T 14 k h 16 = T 16 := zrw_off (by omega)
        have eb : zrw T 14 k h 17 = T 17 := zrw_off (by omega)
        have e3 : ((k : Nat) : Int).toNat = k := by omega
        have cb := cv_bound t1 t2 (k := k) (by omega) (t := k + 1) (Nat.le_refl _)
        have exit : J (zrw T 14 k h) 0 114 [(0, .ref (a 0)), (1, .int (iZ r)), (4, .int (iZ n)), (5, .int (iZ m)), (6, .long (lZ (c + cv (T 16) (T 17) k (k + 1)))), (8, .int (iZ k))] [] := by
          generalize hy : c + cv (T 16) (T 17) k (k + 1) = y
          have hy2 : 0 ≤ y ∧ y < 1152921504606846976 := by omega
          have hy3 : 0 ≤ y / 65536 ∧ y / 65536 < 17592186044416 := by omega
          refine j_aload_n hJ dX1_multiply_114 rfl ?_
          refine j_bipush hJ (by decide) dX1_multiply_115 ?_
          refine j_iload hJ dX1_multiply_117 rfl ?_
          refine j_lload hJ dX1_multiply_119 rfl ?_
          refine j_ldc2 (v := 65535) (z := 65535) hJ (by decide) (by decide +kernel) dX1_multiply_121 ?_
          refine j_land hJ (lZ_low16 _) dX1_multiply_124 ?_
          refine j_l2i hJ dX1_multiply_125 ?_
          refine j_callV hJ (kX1_put l D cI a _ _ _ _ ⟨by omega, by omega⟩ ⟨by omega, by omega⟩) rfl gX1_multiply_X1_put rfl hdX1_put rfl ⟨Nat.le_of_ble_eq_true rfl, Nat.le_of_ble_eq_true rfl⟩ (Nat.le_of_ble_eq_true rfl) (Nat.le_of_ble_eq_true rfl) rfl rfl dX1_multiply_126 (fun _ _ h => False.elim h) (fun r126 Z126 hp126 => ?_)
          obtain ⟨rfl, rfl⟩ := hp126
          rw [show (12 : Int).toNat + 2 = 14 from rfl, e3, zrw_push]
          refine j_lload hJ dX1_multiply_129 rfl ?_
          refine j_bipush hJ (by decide) dX1_multiply_131 ?_
          refine j_lshr (n := 16) hJ (by decide) ⟨by omega, by omega⟩ dX1_multiply_133 ?_
          refine j_lstore hJ (by decide) dX1_multiply_134 ?_
          refine j_iinc hJ (by decide) dX1_multiply_136 rfl ?_
          refine j_goto (tgt := 33) hJ (by decide) dX1_multiply_139 ?_
          refine j_re hJ (ih (k + 1) _ (y / 65536) (by omega) (dgs_push hd ⟨by omega, by omega⟩) hy3 ?_) ⟨rfl, rfl, rfl, rfl, rfl, rfl, trivial⟩
          rw [vs_push, vs_s, pw_s]
          have hw : y % 65536 = y - 65536 * (y / 65536) := by omega
          rw [hw]
          grind
        have inner : ∀ (u x : Nat), x + u = k + 1 → k + 1 ≤ x + m → J (zrw T 14 k h) 0 67 [(0, .ref (a 0)), (1, .int (iZ r)), (4, .int (iZ n)), (5, .int (iZ m)), (6, .long (lZ (c + cv (T 16) (T 17) k x))), (8, .int (iZ k)), (10, .int (iZ x))] [] := by
          intro u
          induction u with
          | zero =>
            intro x hx hxm
            have hx2 : x = k + 1 := by omega
            subst hx2
            refine j_iload hJ dX1_multiply_67 rfl ?_
            refine j_iload hJ dX1_multiply_69 rfl ?_
            refine j_icmp_gt (tgt := 114) hJ (by decide) ⟨by omega, by omega⟩ ⟨by omega, by omega⟩ dX1_multiply_71 (fun h71 => ?_) (fun h71 => ?_)
            · exact j_re hJ exit ⟨rfl, rfl, rfl, rfl, rfl, rfl, trivial⟩
            · omega
          | succ u ihu =>
            intro x hx hxm
            have q1 := t1 x (by omega)
            have q2 := t2 (k - x) (by omega)
            refine j_iload hJ dX1_multiply_67 rfl ?_
            refine j_iload hJ dX1_multiply_69 rfl ?_
            refine j_icmp_gt (tgt := 114) hJ (by decide) ⟨by omega, by omega⟩ ⟨by omega, by omega⟩ dX1_multiply_71 (fun h => absurd h (by omega)) (fun _ => ?_)
            refine j_iload hJ dX1_multiply_74 rfl ?_
            refine j_iload hJ dX1_multiply_76 rfl ?_
            refine j_icmp_ge (tgt := 114) hJ (by decide) ⟨by omega, by omega⟩ ⟨by omega, by omega⟩ dX1_multiply_78 (fun h78 => ?_) (fun h78 => ?_)
            · have e9 : cv (T 16) (T 17) k (k + 1) = cv (T 16) (T 17) k x := cv_tail (by omega) (fun y a1 a2 => z1 y (by omega) (by omega))
              rw [← e9]
              exact j_re hJ exit ⟨rfl, rfl, rfl, rfl, rfl, rfl, trivial⟩
            · refine j_lload hJ dX1_multiply_81 rfl ?_
              refine j_aload_n hJ dX1_multiply_83 rfl ?_
              refine j_bipush hJ (by decide) dX1_multiply_84 ?_
              refine j_iload hJ dX1_multiply_86 rfl ?_
              refine j_callV hJ (kX1_get l D cI a _ _ _ ⟨by omega, by omega⟩ ⟨by omega, by omega⟩) rfl gX1_multiply_X1_get rfl hdX1_get rfl ⟨Nat.le_of_ble_eq_true rfl, Nat.le_of_ble_eq_true rfl⟩ (Nat.le_of_ble_eq_true rfl) (Nat.le_of_ble_eq_true rfl) rfl rfl dX1_multiply_88 (fun _ _ h => False.elim h) (fun r88 Z88 hp88 => ?_)
              obtain ⟨rfl, rfl⟩ := hp88
              rw [show (14 : Int).toNat + 2 = 16 from rfl, show ((x : Nat) : Int).toNat = x by omega, ea]
              refine j_i2l hJ ⟨by omega, by omega⟩ dX1_multiply_91 ?_
              refine j_aload_n hJ dX1_multiply_92 rfl ?_
              refine j_bipush hJ (by decide) dX1_multiply_93 ?_
              refine j_iload hJ dX1_multiply_95 rfl ?_
              refine j_iload hJ dX1_multiply_97 rfl ?_
              refine j_isub hJ dX1_multiply_99 ?_
              refine j_callV hJ (kX1_get l D cI a _ _ _ ⟨by omega, by omega⟩ ⟨by omega, by omega⟩) rfl gX1_multiply_X1_get rfl hdX1_get rfl ⟨Nat.le_of_ble_eq_true rfl, Nat.le_of_ble_eq_true rfl⟩ (Nat.le_of_ble_eq_true rfl) (Nat.le_of_ble_eq_true rfl) rfl rfl dX1_multiply_100 (fun _ _ h => False.elim h) (fun r100 Z100 hp100 => ?_)
              obtain ⟨rfl, rfl⟩ := hp100
              rw [show (15 : Int).toNat + 2 = 17 from rfl, show (((k : Nat) : Int) - ((x : Nat) : Int)).toNat = k - x by omega, eb]
              refine j_i2l hJ ⟨by omega, by omega⟩ dX1_multiply_103 ?_
              refine j_lmul hJ dX1_multiply_104 ?_
              refine j_ladd hJ dX1_multiply_105 ?_
              refine j_lstore hJ (by decide) dX1_multiply_106 ?_
              refine j_iinc hJ (by decide) dX1_multiply_108 rfl ?_
              refine j_goto (tgt := 67) hJ (by decide) dX1_multiply_111 ?_
              refine j_re hJ (ihu (x + 1) (by omega) (by omega)) ⟨rfl, rfl, rfl, rfl, ?_, rfl, rfl, trivial⟩
              rw [cv_s]
              show some (Value.long (lZ (c + cv (T 16) (T 17) k x + T 16 x * T 17 (k - x)))) = _
              rw [Int.add_assoc]
        refine j_iload hJ dX1_multiply_33 rfl ?_
        refine j_iload hJ dX1_multiply_35 rfl ?_
        refine j_iload hJ dX1_multiply_37 rfl ?_
        refine j_iadd hJ dX1_multiply_39 ?_
        refine j_icmp_ge (tgt := 142) hJ (by decide) ⟨by omega, by omega⟩ ⟨by omega, by omega⟩ dX1_multiply_40 (fun h40 => ?_) (fun h40 => ?_)
        · omega
        · refine j_iload hJ dX1_multiply_43 rfl ?_
          refine j_iload hJ dX1_multiply_45 rfl ?_
          refine j_icmp_ge (tgt := 54) hJ (by decide) ⟨by omega, by omega⟩ ⟨by omega, by omega⟩ dX1_multiply_47 (fun h47 => ?_) (fun h47 => ?_)
          · refine j_iload hJ dX1_multiply_54 rfl ?_
            refine j_iload hJ dX1_multiply_56 rfl ?_
            refine j_isub hJ dX1_multiply_58 ?_
            refine j_iconst hJ dX1_multiply_59 ?_
            refine j_iadd hJ dX1_multiply_60 ?_
            refine j_istore hJ (by decide) dX1_multiply_61 ?_
            refine j_iload hJ dX1_multiply_63 rfl ?_
            refine j_istore hJ (by decide) dX1_multiply_65 ?_
            first | (have h9 := inner (k + 1) 0 (by omega) (by omega); exact j_re hJ h9 ⟨rfl, rfl, rfl, rfl, by show some (Value.long (lZ c)) = some (Value.long (lZ (c + 0))); rw [Int.add_zero], rfl, rfl, trivial⟩) | (have h9 := inner m (k + 1 - m) (by omega) (by omega); rw [cv_zero (t := k + 1 - m) (fun y hy => by rw [z2 (k - y) (by omega) (by omega)]; omega), Int.add_zero] at h9; exact j_re hJ h9 ⟨rfl, rfl, rfl, rfl, rfl, rfl, by show some (Value.int (iZ (((k : Nat) : Int) - ((m : Nat) : Int) + 1))) = _; rw [show ((k : Nat) : Int) - ((m : Nat) : Int) + 1 = ((k + 1 - m : Nat) : Int) by omega], trivial⟩)
          · refine j_iconst hJ dX1_multiply_50 ?_
            refine j_goto (tgt := 61) hJ (by decide) dX1_multiply_51 ?_
            refine j_istore hJ (by decide) dX1_multiply_61 ?_
            refine j_iload hJ dX1_multiply_63 rfl ?_
            refine j_istore hJ (by decide) dX1_multiply_65 ?_
            first | (have h9 := inner (k + 1) 0 (by omega) (by omega); exact j_re hJ h9 ⟨rfl, rfl, rfl, rfl, by show some (Value.long (lZ c)) = some (Value.long (lZ (c + 0))); rw [Int.add_zero], rfl, rfl, trivial⟩) | (have h9 := inner m (k + 1 - m) (by omega) (by omega); rw [cv_zero (t := k + 1 - m) (fun y hy => by rw [z2 (k - y) (by omega) (by omega)]; omega), Int.add_zero] at h9; exact j_re hJ h9 ⟨rfl, rfl, rfl, rfl, rfl, rfl, by show some (Value.int (iZ (((k : Nat) : Int) - ((m : Nat) : Int) + 1))) = _; rw [show ((k : Nat) : Int) - ((m : Nat) : Int) + 1 = ((k + 1 - m : Nat) : Int) by omega], trivial⟩)
    have d14 : dgs 65536 2100 (T ((14 : Int).toNat + 2)) := t1
    have d15 : dgs 65536 2100 (T ((15 : Int).toNat + 2)) := t2
    refine j_aload_n hJ dX1_multiply_0 rfl ?_
    refine j_iload_n hJ dX1_multiply_1 rfl ?_
    refine j_iload_n hJ dX1_multiply_2 rfl ?_
    refine j_iload_n hJ dX1_multiply_3 rfl ?_
    refine j_callV hJ (kX1_take l D cI a Z r i j h0 h1 h2) rfl gX1_multiply_X1_take rfl hdX1_take rfl ⟨Nat.le_of_ble_eq_true rfl, Nat.le_of_ble_eq_true rfl⟩ (Nat.le_of_ble_eq_true rfl) (Nat.le_of_ble_eq_true rfl) rfl rfl dX1_multiply_4 (fun _ _ h => False.elim h) (fun r4 Z4 hp4 => ?_)
    rcases hp4 with ⟨hn, _, _⟩ | ⟨_, rfl, rfl⟩
    · exact absurd ⟨hr, hi, hj⟩ hn
    rw [hT]
    refine j_if_ne (tgt := 11) hJ (by decide) ⟨by omega, by omega⟩ dX1_multiply_7 (fun _ => ?_) (fun h => absurd h (by decide))
    refine j_aload_n hJ dX1_multiply_11 rfl ?_
    refine j_bipush hJ (by decide) dX1_multiply_12 ?_
    refine j_callV hJ (kX1_length l D cI a _ _ ⟨by omega, by omega⟩ d14) rfl gX1_multiply_X1_length rfl hdX1_length rfl ⟨Nat.le_of_ble_eq_true rfl, Nat.le_of_ble_eq_true rfl⟩ (Nat.le_of_ble_eq_true rfl) (Nat.le_of_ble_eq_true rfl) rfl rfl dX1_multiply_14 (fun _ _ h => False.elim h) (fun r14 Z14 hp14 => ?_)
    obtain ⟨rfl, rfl⟩ := hp14
    rw [show (14 : Int).toNat + 2 = 16 from rfl, hn]
    refine j_istore hJ (by decide) dX1_multiply_17 ?_
    refine j_aload_n hJ dX1_multiply_19 rfl ?_
    refine j_bipush hJ (by decide) dX1_multiply_20 ?_
    refine j_callV hJ (kX1_length l D cI a _ _ ⟨by omega, by omega⟩ d15) rfl gX1_multiply_X1_length rfl hdX1_length rfl ⟨Nat.le_of_ble_eq_true rfl, Nat.le_of_ble_eq_true rfl⟩ (Nat.le_of_ble_eq_true rfl) (Nat.le_of_ble_eq_true rfl) rfl rfl dX1_multiply_22 (fun _ _ h => False.elim h) (fun r22 Z22 hp22 => ?_)
    obtain ⟨rfl, rfl⟩ := hp22
    rw [show (15 : Int).toNat + 2 = 17 from rfl, hm]
    refine j_istore hJ (by decide) dX1_multiply_25 ?_
    refine j_lconst (z := 0) hJ (by decide) dX1_multiply_27 ?_
    refine j_lstore hJ (by decide) dX1_multiply_28 ?_
    refine j_iconst hJ dX1_multiply_30 ?_
    refine j_istore hJ (by decide) dX1_multiply_31 ?_
    have h9 := loop (n + m) 0 (fun _ => 0) 0 (by omega) (dgs_0 _ _) ⟨by omega, by omega⟩ (by show (0 : Int) + 0 * 65536 ^ 0 = 0; decide)
    rw [zrw_0] at h9
    exact j_re hJ h9 ⟨rfl, rfl, rfl, rfl, rfl, rfl, trivial⟩
  · rw [if_neg hrg] at hJ
    refine j_aload_n hJ dX1_multiply_0 rfl ?_
    refine j_iload_n hJ dX1_multiply_1 rfl ?_
    refine j_iload_n hJ dX1_multiply_2 rfl ?_
    refine j_iload_n hJ dX1_multiply_3 rfl ?_
    refine j_callV hJ (kX1_take l D cI a Z r i j h0 h1 h2) rfl gX1_multiply_X1_take rfl hdX1_take rfl ⟨Nat.le_of_ble_eq_true rfl, Nat.le_of_ble_eq_true rfl⟩ (Nat.le_of_ble_eq_true rfl) (Nat.le_of_ble_eq_true rfl) rfl rfl dX1_multiply_4 (fun _ _ h => False.elim h) (fun r4 Z4 hp4 => ?_)
    obtain ⟨_, rfl, rfl⟩ := hp4.resolve_right (fun h => hrg h.1)
    refine j_if_ne (tgt := 11) hJ (by decide) ⟨by omega, by omega⟩ dX1_multiply_7 (fun h => absurd rfl h) (fun _ => ?_)
    exact j_vret hJ (Nat.le_of_ble_eq_true rfl) (⟨rfl, zup_eq _ _ _ _, hI.code 1⟩) dX1_multiply_10
end M10
