theorem tdiv_f {x y : Int} (hy : y ≠ 0) : ((x.tdiv y).natAbs : Int) = (x.natAbs : Int) / (y.natAbs : Int) ∧ (x.tdiv y ≠ 0 → x.sign * y.sign = (x.tdiv y).sign) := by
  have c1 := sg_cases x
  have c2 := sg_cases y
  have d1 := tdiv_sg x y
  have b1 : 0 ≤ (x.natAbs : Int) / (y.natAbs : Int) := Int.ediv_nonneg (by omega) (by omega)
  have b5 : (x.natAbs : Int) = 0 → (x.natAbs : Int) / (y.natAbs : Int) = 0 := fun e => by rw [e, Int.zero_ediv]
  rw [d1]
  generalize (x.natAbs : Int) / (y.natAbs : Int) = Q at *
  have c3 := sg_cases (x.sign * y.sign * Q)
  rcases c1 with ⟨_, f1, _⟩ | ⟨_, f1, _⟩ | ⟨_, f1, _⟩ <;> rcases c2 with ⟨_, f2, _⟩ | ⟨_, f2, _⟩ | ⟨_, f2, _⟩ <;> rw [f1, f2] at c3 ⊢ <;> omega
theorem tmod_f {x y : Int} (hy : y ≠ 0) : ((x.tmod y).natAbs : Int) = (x.natAbs : Int) % (y.natAbs : Int) ∧ (x.tmod y ≠ 0 → x.sign = (x.tmod y).sign) := by
  have c1 := sg_cases x
  have c2 := sg_cases y
  have d2 := tmod_sg (z := x) hy
  have hbp : 0 < (y.natAbs : Int) := by omega
  have b3 := Int.emod_nonneg (x.natAbs : Int) (Int.ne_of_gt hbp)
  have b6 : (x.natAbs : Int) = 0 → (x.natAbs : Int) % (y.natAbs : Int) = 0 := fun e => by rw [e, Int.zero_emod]
  rw [d2]
  generalize (x.natAbs : Int) % (y.natAbs : Int) = R at *
  have c3 := sg_cases (x.sign * R)
  rcases c1 with ⟨_, f1, _⟩ | ⟨_, f1, _⟩ | ⟨_, f1, _⟩ <;> rw [f1] at c3 ⊢ <;> omega
theorem oDiv_n {g : Nat → Int} {q t a b : Int} (h : ¬ (isRg q ∧ isRg t ∧ isRg a ∧ isRg b)) : oDiv g q t a b = (1, g) := if_neg h
theorem oDiv_2 {g : Nat → Int} {q t a b : Int} (h : isRg q ∧ isRg t ∧ isRg a ∧ isRg b) (h2 : q = t ∨ g b.toNat = 0) : oDiv g q t a b = (2, g) := by unfold oDiv; rw [if_pos h, if_pos h2]
theorem oDiv_y {g : Nat → Int} {q t a b : Int} (h : isRg q ∧ isRg t ∧ isRg a ∧ isRg b) (h2 : ¬ (q = t ∨ g b.toNat = 0)) : oDiv g q t a b = (0, gset (gset g q.toNat ((g a.toNat).tdiv (g b.toNat))) t.toNat ((g a.toNat).tmod (g b.toNat))) := by unfold oDiv; rw [if_pos h, if_neg h2]
section X10
variable (l : Launch) (D : va_G) (cI cO : ClassId) (a : Nat → Nat) (Z : ZZ)
set_option maxRecDepth 20000 in
theorem kX0_divide (hl0 : l.stackTraces = false) (g : Nat → Int) (hI : XI Z g) (q t i j : Int) (h0 : i32 q) (h1 : i32 t) (h2 : i32 i) (h3 : i32 j) : Ct l D (tX cI cO) (wX cI cO a) yX0_divide wsX0_divide 7 5 120 [.ref (a 0), .int (iZ q), .int (iZ t), .int (iZ i), .int (iZ j)] Z (fun v Z' => v = none ∧ (oDiv g q t i j).1 = 0 ∧ XI Z' (oDiv g q t i j).2) (pT g (oDiv g q t i j).1 eA) := by
  refine Ct.of (cc := cX0_divide) (maxL := 9) (ret := none) rfl (by decide) rfl (Nat.le_of_ble_eq_true rfl) (fun J hJ => ?_)
  have hin : ∀ w ∈ u_ws RX0 TX0 6, w ∈ wsX0_divide := by decide +kernel
  have main : isRg q → isRg t → isRg i → isRg j → q ≠ t → g j.toNat ≠ 0 → J Z 4 76 [(0, .ref (a 0)), (1, .int (iZ q)), (2, .int (iZ t)), (3, .int (iZ i)), (4, .int (iZ j)), (5, .int (iZ ((g i.toNat).sign * (g j.toNat).sign))), (6, .int (iZ (g i.toNat).sign))] [] := by
    intro hq ht hi hj hqt hb
    have hy := oDiv_y (g := g) ⟨hq, ht, hi, hj⟩ (show ¬ (q = t ∨ g j.toNat = 0) from fun c => c.elim hqt hb)
    rw [hy] at hJ
    obtain ⟨d2, v2, s2, c2⟩ := hI.2 j.toNat (by omega)
    have hne : lenr (Z (j.toNat + 5)) 512 ≠ 0 := fun e => by
      have := (lenr_0iff (B := 4294967296) (by decide) d2).mp e
      rw [v2] at this
      omega
    have l2 := lenr_le (Z (j.toNat + 5)) 512
    obtain ⟨n, hn⟩ : ∃ n, lenr (Z (j.toNat + 5)) 512 = n + 1 := ⟨lenr (Z (j.toNat + 5)) 512 - 1, by omega⟩
    have td := tdiv_f (x := g i.toNat) hb
    have tm := tmod_f (x := g i.toNat) hb
    refine j_aload_n hJ dX0_divide_76 rfl ?_
    refine x_counts hJ hin (by decide +kernel) dX0_divide_77 ?_
    refine j_iload hJ dX0_divide_80 rfl ?_
    refine x_ald_c hJ ⟨by omega, by omega⟩ dX0_divide_82 ?_
    rw [c2, hn]
    refine j_istore hJ (by decide) dX0_divide_83 ?_
    refine j_iload hJ dX0_divide_85 rfl ?_
    refine j_bipush hJ (by decide) dX0_divide_87 ?_
    refine j_imul hJ dX0_divide_89 ?_
    refine j_aload_n hJ dX0_divide_90 rfl ?_
    refine j_iload hJ dX0_divide_91 rfl ?_
    refine j_callV hJ (kX0_bitsOf l D cI cO a _ _ (by assumption) _ ⟨by omega, by omega⟩) rfl gX0_divide_X0_bitsOf rfl hdX0_bitsOf rfl ⟨Nat.le_of_ble_eq_true rfl, Nat.le_of_ble_eq_true rfl⟩ (Nat.le_of_ble_eq_true rfl) (Nat.le_of_ble_eq_true rfl) rfl rfl dX0_divide_93 (fun _ _ h => False.elim h) (fun r93 Z93 hp93 => ?_)
    obtain ⟨⟨z, rfl, hz, hz2, hz3, hz4⟩, rfl⟩ := hp93
    rw [hn] at hz3 hz4
    obtain ⟨up, hup⟩ : ∃ up : Nat, up + z = 32 * (n + 1) := ⟨32 * (n + 1) - z, by omega⟩
    refine j_isub hJ dX0_divide_96 ?_
    rw [show ((n + 1 : Nat) : Int) * 32 - (z : Int) = ((up : Nat) : Int) by omega]
    have pz : (2 : Int) ^ z * 2 ^ up = 4294967296 ^ (n + 1) := (by rw [← Int.pow_add, show z + up = 32 * (n + 1) by omega, ← pw_mul]; rfl)
    have pz1 : (2 : Int) ^ (z - 1) * 2 ^ up = 2147483648 * 4294967296 ^ n := (by rw [← Int.pow_add, show z - 1 + up = 31 + 32 * n by omega, Int.pow_add, ← pw_mul]; rfl)
    have hpu := pw_pos (B := 2) (by decide) up
    have hbig : 2147483648 * 4294967296 ^ n ≤ ((g j.toNat).natAbs : Int) * 2 ^ up := (by rw [← pz1]; exact Int.mul_le_mul_of_nonneg_right (hz.2.resolve_left (by omega)) (Int.le_of_lt hpu))
    have hsml : ((g j.toNat).natAbs : Int) * 2 ^ up < 4294967296 ^ (n + 1) := (by rw [← pz]; exact Int.mul_lt_mul_of_pos_right hz.1 hpu)
    refine j_istore hJ (by decide) dX0_divide_97 ?_
    refine j_aload_n hJ dX0_divide_99 rfl ?_
    refine j_iload_n hJ dX0_divide_100 rfl ?_
    refine j_iload hJ dX0_divide_101 rfl ?_
    refine j_iload hJ dX0_divide_103 rfl ?_
    refine j_callV hJ (kX0_divideSizes l D cI cO a Z g hI i j up ⟨by omega, by omega⟩ ⟨by omega, by omega⟩ (by omega) n hn hbig hsml) rfl gX0_divide_X0_divideSizes rfl hdX0_divideSizes rfl ⟨Nat.le_of_ble_eq_true rfl, Nat.le_of_ble_eq_true rfl⟩ (Nat.le_of_ble_eq_true rfl) (Nat.le_of_ble_eq_true rfl) rfl rfl dX0_divide_105 (fun _ _ h => False.elim h) (fun r105 Z105 hp105 => ?_)
    obtain ⟨rfl, L, d, Q, rfl, hL, hd, hQ, hQ0, hQv, hLv⟩ := hp105
    have hS := st3_XI hI hL hd hQ
    have hQ5 : vs 4294967296 (st3 Z L d Q 2) 512 = (((g i.toNat).tdiv (g j.toNat)).natAbs : Int) := (by rw [vs_congr (g := Q) (fun k hk => st3_2 (by omega)), td.1, ← hQv, vs_513, hQ0]; omega)
    have hS1 := kp_XI hS (r := q.toNat) (by omega) (s := (g i.toNat).sign * (g j.toNat).sign) hQ5 td.2
    have h33 : kp (st3 Z L d Q) q.toNat ((g i.toNat).sign * (g j.toNat).sign) 3 = st3 Z L d Q 3 := kp_off (by omega) (by omega) (by omega)
    refine j_aload_n hJ dX0_divide_108 rfl ?_
    refine j_iload_n hJ dX0_divide_109 rfl ?_
    refine j_iload hJ dX0_divide_110 rfl ?_
    refine j_callV hJ (kX0_keepResult l D cI cO a _ _ _ hq hS.1.1) rfl gX0_divide_X0_keepResult rfl hdX0_keepResult rfl ⟨Nat.le_of_ble_eq_true rfl, Nat.le_of_ble_eq_true rfl⟩ (Nat.le_of_ble_eq_true rfl) (Nat.le_of_ble_eq_true rfl) rfl rfl dX0_divide_112 (fun _ _ h => False.elim h) (fun r112 Z112 hp112 => ?_)
    obtain ⟨rfl, rfl⟩ := hp112
    refine j_aload_n hJ dX0_divide_115 rfl ?_
    refine j_aload_n hJ dX0_divide_116 rfl ?_
    refine x_left hJ hin (by decide +kernel) dX0_divide_117 ?_
    refine j_iload hJ dX0_divide_120 rfl ?_
    refine j_iload hJ dX0_divide_122 rfl ?_
    refine j_callV hJ (kX0_moveDown l D cI cO a _ (n + 1) up 3 514 (by omega) (by omega) (Or.inl ⟨rfl, rfl⟩) (by rw [h33]; exact hS.1.2.1)) rfl gX0_divide_X0_moveDown rfl hdX0_moveDown rfl ⟨Nat.le_of_ble_eq_true rfl, Nat.le_of_ble_eq_true rfl⟩ (Nat.le_of_ble_eq_true rfl) (Nat.le_of_ble_eq_true rfl) rfl rfl dX0_divide_124 (fun _ _ h => False.elim h) (fun r124 Z124 hp124 => ?_)
    obtain ⟨rfl, h, rfl, hhd, hh0, hhv⟩ := hp124
    rw [h33, vs_congr (g := L) (fun k hk => st3_3 (by omega)), hLv, Int.mul_ediv_cancel _ (Int.ne_of_gt hpu), ← tm.1] at hhv
    have kx := keep_XI hS1 hhd hh0 ht (s := (g i.toNat).sign) hhv tm.2
    have hS2 := res_XI hS1 hhd
    refine j_aload_n hJ dX0_divide_127 rfl ?_
    refine j_iload_n hJ dX0_divide_128 rfl ?_
    refine j_iload hJ dX0_divide_129 rfl ?_
    refine j_callV hJ (kX0_keepResult l D cI cO a _ _ _ ht hS2.1.1) rfl gX0_divide_X0_keepResult rfl hdX0_keepResult rfl ⟨Nat.le_of_ble_eq_true rfl, Nat.le_of_ble_eq_true rfl⟩ (Nat.le_of_ble_eq_true rfl) (Nat.le_of_ble_eq_true rfl) rfl rfl dX0_divide_131 (fun _ _ h => False.elim h) (fun r131 Z131 hp131 => ?_)
    obtain ⟨rfl, rfl⟩ := hp131
    exact j_vret hJ (Nat.le_of_ble_eq_true rfl) (⟨rfl, rfl, kx.2⟩) dX0_divide_134
  refine j_iload_n hJ dX0_divide_0 rfl ?_
  refine j_callS hJ (kX0_checkRegister l D hl0 _ ⟨by omega, by omega⟩) rfl gX0_divide_X0_checkRegister rfl hsX0_checkRegister rfl ⟨Nat.le_of_ble_eq_true rfl, Nat.le_of_ble_eq_true rfl⟩ (Nat.le_of_ble_eq_true rfl) (Nat.le_of_ble_eq_true rfl) dX0_divide_1 (fun E h => ⟨hI, Or.inl ⟨by rw [oDiv_n (fun c => h.2 c.1)], h.1⟩⟩) (fun r1 hp1 => ?_)
  obtain ⟨rfl, hr1⟩ := hp1
  refine j_iload_n hJ dX0_divide_4 rfl ?_
  refine j_callS hJ (kX0_checkRegister l D hl0 _ ⟨by omega, by omega⟩) rfl gX0_divide_X0_checkRegister rfl hsX0_checkRegister rfl ⟨Nat.le_of_ble_eq_true rfl, Nat.le_of_ble_eq_true rfl⟩ (Nat.le_of_ble_eq_true rfl) (Nat.le_of_ble_eq_true rfl) dX0_divide_5 (fun E h => ⟨hI, Or.inl ⟨by rw [oDiv_n (fun c => h.2 c.2.1)], h.1⟩⟩) (fun r5 hp5 => ?_)
  obtain ⟨rfl, hr5⟩ := hp5
  refine j_iload_n hJ dX0_divide_8 rfl ?_
  refine j_callS hJ (kX0_checkRegister l D hl0 _ ⟨by omega, by omega⟩) rfl gX0_divide_X0_checkRegister rfl hsX0_checkRegister rfl ⟨Nat.le_of_ble_eq_true rfl, Nat.le_of_ble_eq_true rfl⟩ (Nat.le_of_ble_eq_true rfl) (Nat.le_of_ble_eq_true rfl) dX0_divide_9 (fun E h => ⟨hI, Or.inl ⟨by rw [oDiv_n (fun c => h.2 c.2.2.1)], h.1⟩⟩) (fun r9 hp9 => ?_)
  obtain ⟨rfl, hr9⟩ := hp9
  refine j_iload hJ dX0_divide_12 rfl ?_
  refine j_callS hJ (kX0_checkRegister l D hl0 _ ⟨by omega, by omega⟩) rfl gX0_divide_X0_checkRegister rfl hsX0_checkRegister rfl ⟨Nat.le_of_ble_eq_true rfl, Nat.le_of_ble_eq_true rfl⟩ (Nat.le_of_ble_eq_true rfl) (Nat.le_of_ble_eq_true rfl) dX0_divide_14 (fun E h => ⟨hI, Or.inl ⟨by rw [oDiv_n (fun c => h.2 c.2.2.2)], h.1⟩⟩) (fun r14 hp14 => ?_)
  obtain ⟨rfl, hr14⟩ := hp14
  have s3 := (hI.2 i.toNat (by omega)).2.2.1
  have s4 := (hI.2 j.toNat (by omega)).2.2.1
  have sc := sg_cases (g j.toNat)
  refine j_iload_n hJ dX0_divide_17 rfl ?_
  refine j_iload_n hJ dX0_divide_18 rfl ?_
  refine j_icmp_ne (tgt := 32) hJ (by decide) ⟨by omega, by omega⟩ ⟨by omega, by omega⟩ dX0_divide_19 (fun h19 => ?_) (fun h19 => ?_)
  · refine j_aload_n hJ dX0_divide_32 rfl ?_
    refine x_signs hJ hin (by decide +kernel) dX0_divide_33 ?_
    refine j_iload hJ dX0_divide_36 rfl ?_
    refine x_ald_s hJ ⟨by omega, by omega⟩ dX0_divide_38 ?_
    rw [s4]
    refine j_if_ne (tgt := 52) hJ (by decide) ⟨by omega, by omega⟩ dX0_divide_39 (fun h39 => ?_) (fun h39 => ?_)
    · refine j_aload_n hJ dX0_divide_52 rfl ?_
      refine x_signs hJ hin (by decide +kernel) dX0_divide_53 ?_
      refine j_iload_n hJ dX0_divide_56 rfl ?_
      refine x_ald_s hJ ⟨by omega, by omega⟩ dX0_divide_57 ?_
      refine j_aload_n hJ dX0_divide_58 rfl ?_
      refine x_signs hJ hin (by decide +kernel) dX0_divide_59 ?_
      refine j_iload hJ dX0_divide_62 rfl ?_
      refine x_ald_s hJ ⟨by omega, by omega⟩ dX0_divide_64 ?_
      rw [s3, s4]
      refine j_imul hJ dX0_divide_65 ?_
      refine j_istore hJ (by decide) dX0_divide_66 ?_
      refine j_aload_n hJ dX0_divide_68 rfl ?_
      refine x_signs hJ hin (by decide +kernel) dX0_divide_69 ?_
      refine j_iload_n hJ dX0_divide_72 rfl ?_
      refine x_ald_s hJ ⟨by omega, by omega⟩ dX0_divide_73 ?_
      rw [s3]
      refine j_istore hJ (by decide) dX0_divide_74 ?_
      exact j_re hJ (main hr1 hr5 hr9 hr14 (by omega) (by omega)) ⟨rfl, rfl, rfl, rfl, rfl, rfl, rfl, trivial⟩
    · exact x_throw_iae (text := "division by 0") hJ hl0 (by decide +kernel) (by decide +kernel) (by decide +kernel) (by decide +kernel) dX0_divide_42 dX0_divide_45 dX0_divide_46 dX0_divide_48 dX0_divide_51 (Nat.le_of_ble_eq_true rfl) (Nat.le_of_ble_eq_true rfl) (Nat.le_of_ble_eq_true rfl) (⟨hI, Or.inr ⟨by rw [oDiv_2 ⟨hr1, hr5, hr9, hr14⟩ (Or.inr (by omega))], rfl⟩⟩)
  · exact x_throw_iae (text := "the quotient and the rest need two registers") hJ hl0 (by decide +kernel) (by decide +kernel) (by decide +kernel) (by decide +kernel) dX0_divide_22 dX0_divide_25 dX0_divide_26 dX0_divide_28 dX0_divide_31 (Nat.le_of_ble_eq_true rfl) (Nat.le_of_ble_eq_true rfl) (Nat.le_of_ble_eq_true rfl) (⟨hI, Or.inr ⟨by rw [oDiv_2 ⟨hr1, hr5, hr9, hr14⟩ (Or.inl (by omega))], rfl⟩⟩)
end X10
