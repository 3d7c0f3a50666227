theorem dgs_sub {B : Int} {n q m : Nat} {f : Nat → Int} (h : dgs B n f) (hq : q + m ≤ n) : dgs B m (fun i => f (q + i)) := fun i hi => h (q + i) (by omega)
/-- a window's words, one of them changed -/
theorem vs_win {B : Int} {f : Nat → Int} {q i m : Nat} {v : Int} (hi : i < m) : vs B (fun k => fset f (q + i) v (q + k)) m = vs B (fun k => f (q + k)) m + (v - f (q + i)) * B ^ i := by
  rw [← vs_upd (f := fun k => f (q + k)) v hi]
  refine vs_congr (fun k hk => ?_)
  show fset f (q + i) v (q + k) = fset (fun k => f (q + k)) i v k
  by_cases e : k = i
  · rw [e, fset_eq, fset_eq]
  · rw [fset_ne e, fset_ne (by omega)]
theorem alg_take {A C F S d H p c t b P : Int} (h1 : A = C - F * S + c * P) (hp : F * d + c = p) : A + (H - (p - 4294967296 * t) + b * 4294967296 - H) * P = C - F * (S + d * P) + (t + b) * (P * 4294967296) := by
  subst h1; subst hp; grind
theorem alg_give {A C S d H c y t P M : Int} (h1 : A + c * P = C + S + M) (hy : H + d + c = y) : A + (y - 4294967296 * t - H) * P + t * (P * 4294967296) = C + (S + d * P) + M := by
  subst hy; grind
section X7
variable (l : Launch) (D : va_G) (cI cO : ClassId) (a : Nat → Nat) (Z : ZZ)
set_option maxRecDepth 20000 in
theorem kX0_quotientOfPair (P w : Int) (hP : 0 ≤ P ∧ P < 18446744073709551616) (hw : 0 < w ∧ w < 4294967296) : Ct l D [] wE yX0_quotientOfPair wsX0_quotientOfPair 0 0 0 [.long (lZ P), .long (lZ w)] () (fun v _ => v = some (.long (lZ (P / w)))) nX := by
  refine Ct.of (cc := cX0_quotientOfPair) (maxL := 6) (ret := some .long) rfl (by decide) rfl (Nat.le_of_ble_eq_true rfl) (fun J hJ => ?_)
  have g2 : P % 18446744073709551616 / ((2 ^ 1 : Nat) : Int) = P / 2 := by omega
  have h3 := Int.mul_ediv_add_emod (P / 2) w
  have h4 := Int.emod_nonneg (P / 2) (Int.ne_of_gt hw.1)
  have h5 := Int.emod_lt_of_pos (P / 2) hw.1
  have h6 : 0 ≤ P / 2 / w := Int.ediv_nonneg (by omega) (by omega)
  have h7 : P / 2 / w ≤ P / 2 := Int.ediv_le_self _ (by omega)
  generalize P / 2 % w = s at h3 h4 h5
  have q0 : P - P / 2 / w * 2 * w = 2 * s + P % 2 := by
    have : P / 2 / w * 2 * w = 2 * (w * (P / 2 / w)) := by grind
    omega
  have q1 : 2 * s + P % 2 < w → P / w = P / 2 / w * 2 := fun q => by
    have e : P = (2 * s + P % 2) + w * (P / 2 / w * 2) := by
      have : w * (P / 2 / w * 2) = 2 * (w * (P / 2 / w)) := by grind
      omega
    rw [e, Int.add_mul_ediv_left _ _ (Int.ne_of_gt hw.1), ← e, Int.ediv_eq_zero_of_lt (by omega) q, Int.zero_add]
  have q2 : w ≤ 2 * s + P % 2 → P / w = P / 2 / w * 2 + 1 := fun q => by
    have e : P = (2 * s + P % 2 - w) + w * (P / 2 / w * 2 + 1) := by
      have : w * (P / 2 / w * 2 + 1) = 2 * (w * (P / 2 / w)) + w := by grind
      omega
    rw [e, Int.add_mul_ediv_left _ _ (Int.ne_of_gt hw.1), ← e, Int.ediv_eq_zero_of_lt (by omega) (by omega), Int.zero_add]
  refine j_lload_n hJ dX0_quotientOfPair_0 rfl ?_
  refine j_lconst (z := 0) hJ (by decide) dX0_quotientOfPair_1 ?_
  refine j_lcmp_ne (tgt := 8) hJ (by decide) ⟨by omega, by omega⟩ ⟨by omega, by omega⟩ dX0_quotientOfPair_2 dX0_quotientOfPair_3 (fun h2 => ?_) (fun h2 => ?_)
  · refine j_lload_n hJ dX0_quotientOfPair_8 rfl ?_
    refine j_iconst hJ dX0_quotientOfPair_9 ?_
    refine j_lushr (n := 1) hJ (by decide) dX0_quotientOfPair_10 ?_
    rw [g2]
    refine j_lload_n hJ dX0_quotientOfPair_11 rfl ?_
    refine j_ldiv hJ (by omega) ⟨by omega, by omega⟩ ⟨by omega, by omega⟩ (by omega) dX0_quotientOfPair_12 ?_
    refine j_ldc2 (v := 2) (z := 2) hJ (by decide) (by decide +kernel) dX0_quotientOfPair_13 ?_
    refine j_lmul hJ dX0_quotientOfPair_16 ?_
    refine j_lstore hJ (by decide) dX0_quotientOfPair_17 ?_
    refine j_lload_n hJ dX0_quotientOfPair_19 rfl ?_
    refine j_lload hJ dX0_quotientOfPair_20 rfl ?_
    refine j_lload_n hJ dX0_quotientOfPair_22 rfl ?_
    refine j_lmul hJ dX0_quotientOfPair_23 ?_
    refine j_lsub hJ dX0_quotientOfPair_24 ?_
    rw [q0]
    refine j_lload_n hJ dX0_quotientOfPair_25 rfl ?_
    refine j_lcmp_lt (tgt := 37) hJ (by decide) ⟨by omega, by omega⟩ ⟨by omega, by omega⟩ dX0_quotientOfPair_26 dX0_quotientOfPair_27 (fun h26 => ?_) (fun h26 => ?_)
    · refine j_lload hJ dX0_quotientOfPair_37 rfl ?_
      exact j_lret hJ (Nat.le_of_ble_eq_true rfl) (by first | rw [q1 (by omega)] | rw [q2 (by omega)]) dX0_quotientOfPair_39
    · refine j_lload hJ dX0_quotientOfPair_30 rfl ?_
      refine j_lconst (z := 1) hJ (by decide) dX0_quotientOfPair_32 ?_
      refine j_ladd hJ dX0_quotientOfPair_33 ?_
      refine j_goto (tgt := 39) hJ (by decide) dX0_quotientOfPair_34 ?_
      exact j_lret hJ (Nat.le_of_ble_eq_true rfl) (by first | rw [q1 (by omega)] | rw [q2 (by omega)]) dX0_quotientOfPair_39
  · omega
set_option maxRecDepth 20000 in
theorem kX0_guessDigit (t u : Nat) (ht : 1 ≤ t ∧ t < 514) (hu : u < 513) (d3 : dgs 4294967296 514 (Z 3)) (d4 : dgs 4294967296 513 (Z 4)) (hw : 2147483648 ≤ Z 4 u) : Ct l D (tX cI cO) (wX cI cO a) yX0_guessDigit wsX0_guessDigit 1 0 30 [.ref (a 0), .int (iZ (t : Int)), .int (iZ (u : Int))] Z (fun v Z' => (∃ z : Int, v = some (.long (lZ z)) ∧ ((4294967295 < (Z 3 t * 4294967296 + Z 3 (t - 1)) / Z 4 u ∧ z = 4294967295) ∨ ((Z 3 t * 4294967296 + Z 3 (t - 1)) / Z 4 u ≤ 4294967295 ∧ z = (Z 3 t * 4294967296 + Z 3 (t - 1)) / Z 4 u))) ∧ Z = Z') nX := by
  refine Ct.of (cc := cX0_guessDigit) (maxL := 5) (ret := some .long) rfl (by decide) rfl (Nat.le_of_ble_eq_true rfl) (fun J hJ => ?_)
  have hin : ∀ w ∈ u_ws RX0 TX0 6, w ∈ wsX0_guessDigit := by decide +kernel
  have hlow : Jvm.Cond.constantLong RX0 108 4294967295 ∈ wsX0_guessDigit := by decide +kernel
  have q1 := d3 t (by omega)
  have q2 := d3 (t - 1) (by omega)
  have q3 := d4 u hu
  have e1 : ((t : Nat) : Int).toNat = t := by omega
  have e2 : (((t : Nat) : Int) - 1).toNat = t - 1 := by omega
  have e3 : ((u : Nat) : Int).toNat = u := by omega
  have hPb : 0 ≤ Z 3 t * 4294967296 + Z 3 (t - 1) ∧ Z 3 t * 4294967296 + Z 3 (t - 1) < 18446744073709551616 := by omega
  have hq : 0 ≤ (Z 3 t * 4294967296 + Z 3 (t - 1)) / Z 4 u := Int.ediv_nonneg hPb.1 (by omega)
  have hq2 : (Z 3 t * 4294967296 + Z 3 (t - 1)) / Z 4 u < 8589934592 := Int.ediv_lt_of_lt_mul (by omega) (by omega)
  have key : ∀ y : Int, i32 y → iZ y = iZ (Z 3 t) → lZ (y * 4294967296 + Z 3 (t - 1)) = lZ (Z 3 t * 4294967296 + Z 3 (t - 1)) := by
    intro y hy e
    have e4 := iZ_u y
    rw [e, iZ_u] at e4
    rw [← lZ_mod (y * 4294967296 + _), ← lZ_mod (Z 3 t * 4294967296 + _)]
    congr 1
    omega
  refine j_aload_n hJ dX0_guessDigit_0 rfl ?_
  refine x_left hJ hin (by decide +kernel) dX0_guessDigit_1 ?_
  refine j_iload_n hJ dX0_guessDigit_4 rfl ?_
  refine x_ald_l hJ ⟨by omega, by omega⟩ dX0_guessDigit_5 ?_
  rw [e1, ← iZ_of (iZ (Z 3 t))]
  have hy : i32 (iZ (Z 3 t)).toInt := ⟨Int32.le_toInt _, Int32.toInt_lt _⟩
  have hk := key _ hy (iZ_of _)
  generalize (iZ (Z 3 t)).toInt = y at hy hk ⊢
  refine j_i2l hJ hy dX0_guessDigit_6 ?_
  refine j_aload_n hJ dX0_guessDigit_7 rfl ?_
  refine x_left hJ hin (by decide +kernel) dX0_guessDigit_8 ?_
  refine j_iload_n hJ dX0_guessDigit_11 rfl ?_
  refine j_iconst hJ dX0_guessDigit_12 ?_
  refine j_isub hJ dX0_guessDigit_13 ?_
  refine x_ald_l hJ ⟨by omega, by omega⟩ dX0_guessDigit_14 ?_
  rw [e2]
  refine j_callS hJ (kX0_pairOf l D _ _ ⟨by omega, by omega⟩) rfl gX0_guessDigit_X0_pairOf rfl hsX0_pairOf rfl ⟨Nat.le_of_ble_eq_true rfl, Nat.le_of_ble_eq_true rfl⟩ (Nat.le_of_ble_eq_true rfl) (Nat.le_of_ble_eq_true rfl) dX0_guessDigit_15 (fun _ h => False.elim h) (fun r15 hp15 => ?_)
  subst hp15
  rw [hk]
  refine j_lstore_n hJ (by decide) dX0_guessDigit_18 ?_
  refine j_lload_n hJ dX0_guessDigit_19 rfl ?_
  refine j_aload_n hJ dX0_guessDigit_20 rfl ?_
  refine x_divisor hJ hin (by decide +kernel) dX0_guessDigit_21 ?_
  refine j_iload_n hJ dX0_guessDigit_24 rfl ?_
  refine x_ald_d hJ ⟨by omega, by omega⟩ dX0_guessDigit_25 ?_
  rw [e3]
  refine j_loww hJ hlow ⟨by omega, by omega⟩ dX0_guessDigit_26 dX0_guessDigit_27 dX0_guessDigit_30 ?_
  refine j_callS hJ (kX0_quotientOfPair l D _ _ hPb ⟨by omega, q3.2⟩) rfl gX0_guessDigit_X0_quotientOfPair rfl hsX0_quotientOfPair rfl ⟨Nat.le_of_ble_eq_true rfl, Nat.le_of_ble_eq_true rfl⟩ (Nat.le_of_ble_eq_true rfl) (Nat.le_of_ble_eq_true rfl) dX0_guessDigit_31 (fun _ h => False.elim h) (fun r31 hp31 => ?_)
  subst hp31
  generalize (Z 3 t * 4294967296 + Z 3 (t - 1)) / Z 4 u = qq at hq hq2 hJ ⊢
  refine j_ldc2 (v := 4294967295) (z := 4294967295) hJ (by decide) (by decide +kernel) dX0_guessDigit_34 ?_
  obtain ⟨z, hz⟩ : ∃ z : Int, (4294967295 < qq ∧ z = 4294967295) ∨ (qq ≤ 4294967295 ∧ z = qq) := (by rcases Int.lt_or_le 4294967295 qq with w | w; exact ⟨_, Or.inl ⟨w, rfl⟩⟩; exact ⟨_, Or.inr ⟨w, rfl⟩⟩)
  refine j_minl (z := z) hJ ⟨by omega, by omega⟩ ⟨by omega, by omega⟩ hz (by decide +kernel) (by decide +kernel) (by decide +kernel) (by decide +kernel) (Nat.le_of_ble_eq_true rfl) (Nat.le_of_ble_eq_true rfl) (Nat.le_of_ble_eq_true rfl) dX0_guessDigit_37 ?_
  exact j_lret hJ (Nat.le_of_ble_eq_true rfl) (⟨⟨z, rfl, hz⟩, rfl⟩) dX0_guessDigit_40
set_option maxRecDepth 20000 in
theorem kX0_takeMultiple (q p n : Nat) (dg : Int) (hn : q + n < 514) (hp : p + n ≤ 513) (hdg : 0 ≤ dg ∧ dg < 4294967296) (d3 : dgs 4294967296 514 (Z 3)) (d4 : dgs 4294967296 513 (Z 4)) : Ct l D (tX cI cO) (wX cI cO a) yX0_takeMultiple wsX0_takeMultiple 0 0 0 [.ref (a 0), .int (iZ (q : Int)), .int (iZ (p : Int)), .int (iZ (n : Int)), .long (lZ dg)] Z (fun v Z' => ∃ (h : Nat → Int) (b : Int), v = some (.int (iZ b)) ∧ (b = 0 ∨ b = 1) ∧ Z' = zrw Z 3 514 h ∧ dgs 4294967296 514 h ∧ (∀ i, i < 514 → (i < q ∨ q + n < i) → h i = Z 3 i) ∧ vs 4294967296 (fun i => h (q + i)) (n + 1) = vs 4294967296 (fun i => Z 3 (q + i)) (n + 1) - dg * vs 4294967296 (fun i => Z 4 (p + i)) n + b * 4294967296 ^ (n + 1)) nX := by
  refine Ct.of (cc := cX0_takeMultiple) (maxL := 13) (ret := some .boolean) rfl (by decide) rfl (Nat.le_of_ble_eq_true rfl) (fun J hJ => ?_)
  have hin : ∀ w ∈ u_ws RX0 TX0 6, w ∈ wsX0_takeMultiple := by decide +kernel
  have hlow : Jvm.Cond.constantLong RX0 108 4294967295 ∈ wsX0_takeMultiple := by decide +kernel
  have bnd : ∀ w c : Int, 0 ≤ w ∧ w < 4294967296 → 0 ≤ c ∧ c < 4294967296 → 0 ≤ dg * w + c ∧ dg * w + c ≤ 18446744069414584320 := fun w c b1 b2 => by
    have p1 := Int.mul_nonneg hdg.1 b1.1
    have p2 : dg * w ≤ 4294967295 * 4294967295 := Int.mul_le_mul (by omega) (by omega) b1.1 (by decide)
    omega
  have loop : ∀ (m k : Nat) (h : Nat → Int) (c : Int), k + m = n → dgs 4294967296 514 h → (0 ≤ c ∧ c < 4294967296) → (∀ i, i < 514 → (i < q ∨ q + k ≤ i) → h i = Z 3 i) → vs 4294967296 (fun i => h (q + i)) k = vs 4294967296 (fun i => Z 3 (q + i)) k - dg * vs 4294967296 (fun i => Z 4 (p + i)) k + c * 4294967296 ^ k → J (zrw Z 3 514 h) 0 6 [(0, .ref (a 0)), (1, .int (iZ (q : Int))), (2, .int (iZ (p : Int))), (3, .int (iZ (n : Int))), (4, .long (lZ dg)), (6, .long (lZ c)), (8, .int (iZ (k : Int)))] [] := by
    intro m
    induction m with
    | zero =>
      intro k h c hm hd hc hi hv
      have hk : k = n := by omega
      subst hk
      have q3 := hd (q + k) (by omega)
      have q4 := hi (q + k) (by omega) (by omega)
      have e2 : zrw Z 3 514 h 3 (q + k) = h (q + k) := zrw_in (by omega)
      have e4 : (((q : Nat) : Int) + ((k : Nat) : Int)).toNat = q + k := by omega
      have fin : ∀ b : Int, (b = 0 ∨ b = 1) → h (q + k) - c + b * 4294967296 = (h (q + k) - c) % 4294967296 → (∃ (h2 : Nat → Int) (b2 : Int), some (Value.int (iZ b)) = some (.int (iZ b2)) ∧ (b2 = 0 ∨ b2 = 1) ∧ zrw Z 3 514 (fset h (q + k) ((h (q + k) - c) % 4294967296)) = zrw Z 3 514 h2 ∧ dgs 4294967296 514 h2 ∧ (∀ i, i < 514 → (i < q ∨ q + k < i) → h2 i = Z 3 i) ∧ vs 4294967296 (fun i => h2 (q + i)) (k + 1) = vs 4294967296 (fun i => Z 3 (q + i)) (k + 1) - dg * vs 4294967296 (fun i => Z 4 (p + i)) k + b2 * 4294967296 ^ (k + 1)) := by
        intro b hb hbe
        refine ⟨_, b, rfl, hb, rfl, dgs_upd hd ⟨by omega, by omega⟩, fun i i1 i2 => by rw [fset_ne (by omega)]; exact hi i i1 (by omega), ?_⟩
        have e9 : vs 4294967296 (fun i => h (q + i)) (k + 1) = vs 4294967296 (fun i => h (q + i)) k + h (q + k) * 4294967296 ^ k := rfl
        have e8 : vs 4294967296 (fun i => Z 3 (q + i)) (k + 1) = vs 4294967296 (fun i => Z 3 (q + i)) k + Z 3 (q + k) * 4294967296 ^ k := rfl
        rw [vs_win (by omega), e9, e8, ← hbe, pw_s, hv, ← q4]
        grind
      refine j_iload hJ dX0_takeMultiple_6 rfl ?_
      refine j_iload_n hJ dX0_takeMultiple_8 rfl ?_
      refine j_icmp_ge (tgt := 96) hJ (by decide) ⟨by omega, by omega⟩ ⟨by omega, by omega⟩ dX0_takeMultiple_9 (fun h9 => ?_) (fun h9 => ?_)
      · refine j_aload_n hJ dX0_takeMultiple_96 rfl ?_
        refine x_left hJ hin (by decide +kernel) dX0_takeMultiple_97 ?_
        refine j_iload_n hJ dX0_takeMultiple_100 rfl ?_
        refine j_iload_n hJ dX0_takeMultiple_101 rfl ?_
        refine j_iadd hJ dX0_takeMultiple_102 ?_
        refine x_ald_l hJ ⟨by omega, by omega⟩ dX0_takeMultiple_103 ?_
        rw [e4, e2]
        refine j_loww hJ hlow ⟨by omega, by omega⟩ dX0_takeMultiple_104 dX0_takeMultiple_105 dX0_takeMultiple_108 ?_
        refine j_lload hJ dX0_takeMultiple_109 rfl ?_
        refine j_lsub hJ dX0_takeMultiple_111 ?_
        refine j_lstore hJ (by decide) dX0_takeMultiple_112 ?_
        refine j_aload_n hJ dX0_takeMultiple_114 rfl ?_
        refine x_left hJ hin (by decide +kernel) dX0_takeMultiple_115 ?_
        refine j_iload_n hJ dX0_takeMultiple_118 rfl ?_
        refine j_iload_n hJ dX0_takeMultiple_119 rfl ?_
        refine j_iadd hJ dX0_takeMultiple_120 ?_
        refine j_lload hJ dX0_takeMultiple_121 rfl ?_
        refine j_l2w hJ dX0_takeMultiple_123 ?_
        refine x_ast_l hJ ⟨by omega, by omega⟩ dX0_takeMultiple_124 ?_
        rw [e4, zrw_upd (by omega)]
        refine j_lload hJ dX0_takeMultiple_125 rfl ?_
        refine j_lconst (z := 0) hJ (by decide) dX0_takeMultiple_127 ?_
        refine j_lcmp_ge (tgt := 136) hJ (by decide) ⟨by omega, by omega⟩ ⟨by omega, by omega⟩ dX0_takeMultiple_128 dX0_takeMultiple_129 (fun h128 => ?_) (fun h128 => ?_)
        · refine j_iconst hJ dX0_takeMultiple_136 ?_
          exact j_zret hJ (by decide) (Nat.le_of_ble_eq_true rfl) (fin _ (by omega) (by omega)) dX0_takeMultiple_137
        · refine j_iconst hJ dX0_takeMultiple_132 ?_
          refine j_goto (tgt := 137) hJ (by decide) dX0_takeMultiple_133 ?_
          exact j_zret hJ (by decide) (Nat.le_of_ble_eq_true rfl) (fin _ (by omega) (by omega)) dX0_takeMultiple_137
      · omega
    | succ m ih =>
      intro k h c hm hd hc hi hv
      have q1 := d4 (p + k) (by omega)
      have q3 := hd (q + k) (by omega)
      have q4 := hi (q + k) (by omega) (by omega)
      have e1 : zrw Z 3 514 h 4 = Z 4 := zrw_off (by omega)
      have e2 : zrw Z 3 514 h 3 (q + k) = h (q + k) := zrw_in (by omega)
      have e4 : (((q : Nat) : Int) + ((k : Nat) : Int)).toNat = q + k := by omega
      have e5 : (((p : Nat) : Int) + ((k : Nat) : Int)).toNat = p + k := by omega
      have hb := bnd _ _ q1 hc
      generalize hy : dg * Z 4 (p + k) + c = y at hb
      have hy2 : y % 18446744073709551616 / ((2 ^ 32 : Nat) : Int) = y / 4294967296 := by omega
      have hy3 : 0 ≤ y / 4294967296 ∧ y / 4294967296 ≤ 4294967295 := by omega
      have hy4 : y % 4294967296 = y - 4294967296 * (y / 4294967296) := by omega
      have nxt : ∀ b : Int, (b = 0 ∨ b = 1) → h (q + k) - y % 4294967296 + b * 4294967296 = (h (q + k) - y % 4294967296) % 4294967296 → J (zrw Z 3 514 (fset h (q + k) ((h (q + k) - y % 4294967296) % 4294967296))) 0 6 [(0, .ref (a 0)), (1, .int (iZ (q : Int))), (2, .int (iZ (p : Int))), (3, .int (iZ (n : Int))), (4, .long (lZ dg)), (6, .long (lZ (y / 4294967296 + b))), (8, .int (iZ ((k + 1 : Nat) : Int)))] [] := by
        intro b hb2 hbe
        refine ih (k + 1) _ (y / 4294967296 + b) (by omega) (dgs_upd hd ⟨by omega, by omega⟩) ⟨by omega, by omega⟩ (fun i i1 i2 => by rw [fset_ne (by omega)]; exact hi i i1 (by omega)) ?_
        have e9 : vs 4294967296 (fun i => h (q + i)) (k + 1) = vs 4294967296 (fun i => h (q + i)) k + h (q + k) * 4294967296 ^ k := rfl
        have e8 : vs 4294967296 (fun i => Z 3 (q + i)) (k + 1) = vs 4294967296 (fun i => Z 3 (q + i)) k + Z 3 (q + k) * 4294967296 ^ k := rfl
        have e7 : vs 4294967296 (fun i => Z 4 (p + i)) (k + 1) = vs 4294967296 (fun i => Z 4 (p + i)) k + Z 4 (p + k) * 4294967296 ^ k := rfl
        rw [vs_win (by omega), e9, e8, e7, ← hbe, hy4, pw_s, ← q4]
        have := alg_take (H := h (q + k)) (d := Z 4 (p + k)) (t := y / 4294967296) (b := b) hv hy
        grind
      refine j_iload hJ dX0_takeMultiple_6 rfl ?_
      refine j_iload_n hJ dX0_takeMultiple_8 rfl ?_
      refine j_icmp_ge (tgt := 96) hJ (by decide) ⟨by omega, by omega⟩ ⟨by omega, by omega⟩ dX0_takeMultiple_9 (fun h9 => ?_) (fun h9 => ?_)
      · omega
      · refine j_lload hJ dX0_takeMultiple_12 rfl ?_
        refine j_aload_n hJ dX0_takeMultiple_14 rfl ?_
        refine x_divisor hJ hin (by decide +kernel) dX0_takeMultiple_15 ?_
        refine j_iload_n hJ dX0_takeMultiple_18 rfl ?_
        refine j_iload hJ dX0_takeMultiple_19 rfl ?_
        refine j_iadd hJ dX0_takeMultiple_21 ?_
        refine x_ald_d hJ ⟨by omega, by omega⟩ dX0_takeMultiple_22 ?_
        rw [e5, e1]
        refine j_loww hJ hlow ⟨by omega, by omega⟩ dX0_takeMultiple_23 dX0_takeMultiple_24 dX0_takeMultiple_27 ?_
        refine j_lmul hJ dX0_takeMultiple_28 ?_
        refine j_lload hJ dX0_takeMultiple_29 rfl ?_
        refine j_ladd hJ dX0_takeMultiple_31 ?_
        rw [hy]
        refine j_lstore hJ (by decide) dX0_takeMultiple_32 ?_
        refine j_aload_n hJ dX0_takeMultiple_34 rfl ?_
        refine x_left hJ hin (by decide +kernel) dX0_takeMultiple_35 ?_
        refine j_iload_n hJ dX0_takeMultiple_38 rfl ?_
        refine j_iload hJ dX0_takeMultiple_39 rfl ?_
        refine j_iadd hJ dX0_takeMultiple_41 ?_
        refine x_ald_l hJ ⟨by omega, by omega⟩ dX0_takeMultiple_42 ?_
        rw [e4, e2]
        refine j_loww hJ hlow ⟨by omega, by omega⟩ dX0_takeMultiple_43 dX0_takeMultiple_44 dX0_takeMultiple_47 ?_
        refine j_lload hJ dX0_takeMultiple_48 rfl ?_
        refine j_ldc2 (v := 4294967295) (z := 4294967295) hJ (by decide) (by decide +kernel) dX0_takeMultiple_50 ?_
        refine j_land hJ (lZ_low y) dX0_takeMultiple_53 ?_
        refine j_lsub hJ dX0_takeMultiple_54 ?_
        refine j_lstore hJ (by decide) dX0_takeMultiple_55 ?_
        refine j_aload_n hJ dX0_takeMultiple_57 rfl ?_
        refine x_left hJ hin (by decide +kernel) dX0_takeMultiple_58 ?_
        refine j_iload_n hJ dX0_takeMultiple_61 rfl ?_
        refine j_iload hJ dX0_takeMultiple_62 rfl ?_
        refine j_iadd hJ dX0_takeMultiple_64 ?_
        refine j_lload hJ dX0_takeMultiple_65 rfl ?_
        refine j_l2w hJ dX0_takeMultiple_67 ?_
        refine x_ast_l hJ ⟨by omega, by omega⟩ dX0_takeMultiple_68 ?_
        rw [e4, zrw_upd (by omega)]
        refine j_lload hJ dX0_takeMultiple_69 rfl ?_
        refine j_bipush hJ (by decide) dX0_takeMultiple_71 ?_
        refine j_lushr (n := 32) hJ (by decide) dX0_takeMultiple_73 ?_
        rw [hy2]
        refine j_lload hJ dX0_takeMultiple_74 rfl ?_
        refine j_lconst (z := 0) hJ (by decide) dX0_takeMultiple_76 ?_
        refine j_lcmp_ge (tgt := 85) hJ (by decide) ⟨by omega, by omega⟩ ⟨by omega, by omega⟩ dX0_takeMultiple_77 dX0_takeMultiple_78 (fun h77 => ?_) (fun h77 => ?_)
        · refine j_iconst hJ dX0_takeMultiple_85 ?_
          refine j_i2l hJ ⟨by omega, by omega⟩ dX0_takeMultiple_86 ?_
          refine j_ladd hJ dX0_takeMultiple_87 ?_
          refine j_lstore hJ (by decide) dX0_takeMultiple_88 ?_
          refine j_iinc hJ (by decide) dX0_takeMultiple_90 rfl ?_
          refine j_re (lv' := [(0, _), (1, _), (2, _), (3, _), (4, _), (6, _), (8, _), (9, _), (11, _)]) hJ ?_ ⟨rfl, rfl, rfl, rfl, rfl, rfl, rfl, rfl, rfl, trivial⟩
          refine j_goto (tgt := 6) hJ (by decide) dX0_takeMultiple_93 ?_
          first | exact j_re hJ (nxt 1 (by omega) (by omega)) ⟨rfl, rfl, rfl, rfl, rfl, rfl, rfl, trivial⟩ | exact j_re hJ (nxt 0 (by omega) (by omega)) ⟨rfl, rfl, rfl, rfl, rfl, rfl, rfl, trivial⟩
        · refine j_iconst hJ dX0_takeMultiple_81 ?_
          refine j_goto (tgt := 86) hJ (by decide) dX0_takeMultiple_82 ?_
          refine j_i2l hJ ⟨by omega, by omega⟩ dX0_takeMultiple_86 ?_
          refine j_ladd hJ dX0_takeMultiple_87 ?_
          refine j_lstore hJ (by decide) dX0_takeMultiple_88 ?_
          refine j_iinc hJ (by decide) dX0_takeMultiple_90 rfl ?_
          refine j_re (lv' := [(0, _), (1, _), (2, _), (3, _), (4, _), (6, _), (8, _), (9, _), (11, _)]) hJ ?_ ⟨rfl, rfl, rfl, rfl, rfl, rfl, rfl, rfl, rfl, trivial⟩
          refine j_goto (tgt := 6) hJ (by decide) dX0_takeMultiple_93 ?_
          first | exact j_re hJ (nxt 1 (by omega) (by omega)) ⟨rfl, rfl, rfl, rfl, rfl, rfl, rfl, trivial⟩ | exact j_re hJ (nxt 0 (by omega) (by omega)) ⟨rfl, rfl, rfl, rfl, rfl, rfl, rfl, trivial⟩
  refine j_lconst (z := 0) hJ (by decide) dX0_takeMultiple_0 ?_
  refine j_lstore hJ (by decide) dX0_takeMultiple_1 ?_
  refine j_iconst hJ dX0_takeMultiple_3 ?_
  refine j_istore hJ (by decide) dX0_takeMultiple_4 ?_
  have h9 := loop n 0 (Z 3) 0 (by omega) d3 ⟨by omega, by omega⟩ (fun _ _ _ => rfl) (by show (0 : Int) = 0 - dg * 0 + 0 * _; omega)
  rw [zrw_id (fun _ _ => rfl)] at h9
  exact j_re hJ h9 ⟨rfl, rfl, rfl, rfl, rfl, rfl, rfl, trivial⟩
set_option maxRecDepth 20000 in
theorem kX0_giveBack (q p n : Nat) (dg : Int) (hn : q + n < 514) (hp : p + n ≤ 513) (hdg : 0 ≤ dg ∧ dg < 4294967296) (hn0 : 1 ≤ n) (d3 : dgs 4294967296 514 (Z 3)) (d4 : dgs 4294967296 513 (Z 4)) : Ct l D (tX cI cO) (wX cI cO a) yX0_giveBack wsX0_giveBack 0 0 0 [.ref (a 0), .int (iZ (q : Int)), .int (iZ (p : Int)), .int (iZ (n : Int)), .long (lZ dg)] Z (fun v Z' => ∃ (h : Nat → Int) (b : Int), v = some (.int (iZ (1 - b))) ∧ (b = 0 ∨ b = 1) ∧ Z' = zrw Z 3 514 h ∧ dgs 4294967296 514 h ∧ (∀ i, i < 514 → (i < q ∨ q + n < i) → h i = Z 3 i) ∧ vs 4294967296 (fun i => h (q + i)) (n + 1) + b * 4294967296 ^ (n + 1) = vs 4294967296 (fun i => Z 3 (q + i)) (n + 1) + vs 4294967296 (fun i => Z 4 (p + i)) n + dg) nX := by
  refine Ct.of (cc := cX0_giveBack) (maxL := 11) (ret := some .boolean) rfl (by decide) rfl (Nat.le_of_ble_eq_true rfl) (fun J hJ => ?_)
  have hin : ∀ w ∈ u_ws RX0 TX0 6, w ∈ wsX0_giveBack := by decide +kernel
  have hlow : Jvm.Cond.constantLong RX0 108 4294967295 ∈ wsX0_giveBack := by decide +kernel
  have loop : ∀ (m k : Nat) (h : Nat → Int) (c : Int), k + m = n → dgs 4294967296 514 h → (0 ≤ c ∧ (c ≤ 2 ∨ (k = 0 ∧ c < 4294967296))) → (∀ i, i < 514 → (i < q ∨ q + k ≤ i) → h i = Z 3 i) → vs 4294967296 (fun i => h (q + i)) k + c * 4294967296 ^ k = vs 4294967296 (fun i => Z 3 (q + i)) k + vs 4294967296 (fun i => Z 4 (p + i)) k + dg → J (zrw Z 3 514 h) 0 7 [(0, .ref (a 0)), (1, .int (iZ (q : Int))), (2, .int (iZ (p : Int))), (3, .int (iZ (n : Int))), (6, .long (lZ c)), (8, .int (iZ (k : Int)))] [] := by
    intro m
    induction m with
    | zero =>
      intro k h c hm hd hc hi hv
      have hk : k = n := by omega
      subst hk
      have q3 := hd (q + k) (by omega)
      have q4 := hi (q + k) (by omega) (by omega)
      have e2 : zrw Z 3 514 h 3 (q + k) = h (q + k) := zrw_in (by omega)
      have e4 : (((q : Nat) : Int) + ((k : Nat) : Int)).toNat = q + k := by omega
      have fin : ∀ b : Int, (b = 0 ∨ b = 1) → h (q + k) + c - b * 4294967296 = (h (q + k) + c) % 4294967296 → (∃ (h2 : Nat → Int) (b2 : Int), some (Value.int (iZ (1 - b))) = some (.int (iZ (1 - b2))) ∧ (b2 = 0 ∨ b2 = 1) ∧ zrw Z 3 514 (fset h (q + k) ((h (q + k) + c) % 4294967296)) = zrw Z 3 514 h2 ∧ dgs 4294967296 514 h2 ∧ (∀ i, i < 514 → (i < q ∨ q + k < i) → h2 i = Z 3 i) ∧ vs 4294967296 (fun i => h2 (q + i)) (k + 1) + b2 * 4294967296 ^ (k + 1) = vs 4294967296 (fun i => Z 3 (q + i)) (k + 1) + vs 4294967296 (fun i => Z 4 (p + i)) k + dg) := by
        intro b hb hbe
        refine ⟨_, b, rfl, hb, rfl, dgs_upd hd ⟨by omega, by omega⟩, fun i i1 i2 => by rw [fset_ne (by omega)]; exact hi i i1 (by omega), ?_⟩
        have e9 : vs 4294967296 (fun i => h (q + i)) (k + 1) = vs 4294967296 (fun i => h (q + i)) k + h (q + k) * 4294967296 ^ k := rfl
        have e8 : vs 4294967296 (fun i => Z 3 (q + i)) (k + 1) = vs 4294967296 (fun i => Z 3 (q + i)) k + Z 3 (q + k) * 4294967296 ^ k := rfl
        rw [vs_win (by omega), e9, e8, ← hbe, pw_s, ← q4]
        grind
      refine j_iload hJ dX0_giveBack_7 rfl ?_
      refine j_iload_n hJ dX0_giveBack_9 rfl ?_
      refine j_icmp_ge (tgt := 72) hJ (by decide) ⟨by omega, by omega⟩ ⟨by omega, by omega⟩ dX0_giveBack_10 (fun h10 => ?_) (fun h10 => ?_)
      · refine j_aload_n hJ dX0_giveBack_72 rfl ?_
        refine x_left hJ hin (by decide +kernel) dX0_giveBack_73 ?_
        refine j_iload_n hJ dX0_giveBack_76 rfl ?_
        refine j_iload_n hJ dX0_giveBack_77 rfl ?_
        refine j_iadd hJ dX0_giveBack_78 ?_
        refine x_ald_l hJ ⟨by omega, by omega⟩ dX0_giveBack_79 ?_
        rw [e4, e2]
        refine j_loww hJ hlow ⟨by omega, by omega⟩ dX0_giveBack_80 dX0_giveBack_81 dX0_giveBack_84 ?_
        refine j_lload hJ dX0_giveBack_85 rfl ?_
        refine j_ladd hJ dX0_giveBack_87 ?_
        refine j_lstore hJ (by decide) dX0_giveBack_88 ?_
        refine j_aload_n hJ dX0_giveBack_90 rfl ?_
        refine x_left hJ hin (by decide +kernel) dX0_giveBack_91 ?_
        refine j_iload_n hJ dX0_giveBack_94 rfl ?_
        refine j_iload_n hJ dX0_giveBack_95 rfl ?_
        refine j_iadd hJ dX0_giveBack_96 ?_
        refine j_lload hJ dX0_giveBack_97 rfl ?_
        refine j_l2w hJ dX0_giveBack_99 ?_
        refine x_ast_l hJ ⟨by omega, by omega⟩ dX0_giveBack_100 ?_
        rw [e4, zrw_upd (by omega)]
        refine j_lload hJ dX0_giveBack_101 rfl ?_
        refine j_ldc2 (v := 4294967295) (z := 4294967295) hJ (by decide) (by decide +kernel) dX0_giveBack_103 ?_
        refine j_lcmp_gt (tgt := 114) hJ (by decide) ⟨by omega, by omega⟩ ⟨by omega, by omega⟩ dX0_giveBack_106 dX0_giveBack_107 (fun h106 => ?_) (fun h106 => ?_)
        · refine j_iconst hJ dX0_giveBack_114 ?_
          exact j_zret hJ (by decide) (Nat.le_of_ble_eq_true rfl) (by first | exact fin 0 (by omega) (by omega) | exact fin 1 (by omega) (by omega)) dX0_giveBack_115
        · refine j_iconst hJ dX0_giveBack_110 ?_
          refine j_goto (tgt := 115) hJ (by decide) dX0_giveBack_111 ?_
          exact j_zret hJ (by decide) (Nat.le_of_ble_eq_true rfl) (by first | exact fin 0 (by omega) (by omega) | exact fin 1 (by omega) (by omega)) dX0_giveBack_115
      · omega
    | succ m ih =>
      intro k h c hm hd hc hi hv
      have q1 := d4 (p + k) (by omega)
      have q3 := hd (q + k) (by omega)
      have q4 := hi (q + k) (by omega) (by omega)
      have e1 : zrw Z 3 514 h 4 = Z 4 := zrw_off (by omega)
      have e2 : zrw Z 3 514 h 3 (q + k) = h (q + k) := zrw_in (by omega)
      have e4 : (((q : Nat) : Int) + ((k : Nat) : Int)).toNat = q + k := by omega
      have e5 : (((p : Nat) : Int) + ((k : Nat) : Int)).toNat = p + k := by omega
      generalize hy : h (q + k) + Z 4 (p + k) + c = y
      have hy2 : y % 18446744073709551616 / ((2 ^ 32 : Nat) : Int) = y / 4294967296 := by omega
      have hy3 : 0 ≤ y / 4294967296 ∧ y / 4294967296 ≤ 2 := by omega
      have hy4 : y % 4294967296 = y - 4294967296 * (y / 4294967296) := by omega
      refine j_iload hJ dX0_giveBack_7 rfl ?_
      refine j_iload_n hJ dX0_giveBack_9 rfl ?_
      refine j_icmp_ge (tgt := 72) hJ (by decide) ⟨by omega, by omega⟩ ⟨by omega, by omega⟩ dX0_giveBack_10 (fun h10 => ?_) (fun h10 => ?_)
      · omega
      · refine j_aload_n hJ dX0_giveBack_13 rfl ?_
        refine x_left hJ hin (by decide +kernel) dX0_giveBack_14 ?_
        refine j_iload_n hJ dX0_giveBack_17 rfl ?_
        refine j_iload hJ dX0_giveBack_18 rfl ?_
        refine j_iadd hJ dX0_giveBack_20 ?_
        refine x_ald_l hJ ⟨by omega, by omega⟩ dX0_giveBack_21 ?_
        rw [e4, e2]
        refine j_loww hJ hlow ⟨by omega, by omega⟩ dX0_giveBack_22 dX0_giveBack_23 dX0_giveBack_26 ?_
        refine j_aload_n hJ dX0_giveBack_27 rfl ?_
        refine x_divisor hJ hin (by decide +kernel) dX0_giveBack_28 ?_
        refine j_iload_n hJ dX0_giveBack_31 rfl ?_
        refine j_iload hJ dX0_giveBack_32 rfl ?_
        refine j_iadd hJ dX0_giveBack_34 ?_
        refine x_ald_d hJ ⟨by omega, by omega⟩ dX0_giveBack_35 ?_
        rw [e5, e1]
        refine j_loww hJ hlow ⟨by omega, by omega⟩ dX0_giveBack_36 dX0_giveBack_37 dX0_giveBack_40 ?_
        refine j_ladd hJ dX0_giveBack_41 ?_
        refine j_lload hJ dX0_giveBack_42 rfl ?_
        refine j_ladd hJ dX0_giveBack_44 ?_
        rw [hy]
        refine j_lstore hJ (by decide) dX0_giveBack_45 ?_
        refine j_aload_n hJ dX0_giveBack_47 rfl ?_
        refine x_left hJ hin (by decide +kernel) dX0_giveBack_48 ?_
        refine j_iload_n hJ dX0_giveBack_51 rfl ?_
        refine j_iload hJ dX0_giveBack_52 rfl ?_
        refine j_iadd hJ dX0_giveBack_54 ?_
        refine j_lload hJ dX0_giveBack_55 rfl ?_
        refine j_l2w hJ dX0_giveBack_57 ?_
        refine x_ast_l hJ ⟨by omega, by omega⟩ dX0_giveBack_58 ?_
        rw [e4, zrw_upd (by omega)]
        refine j_lload hJ dX0_giveBack_59 rfl ?_
        refine j_bipush hJ (by decide) dX0_giveBack_61 ?_
        refine j_lushr (n := 32) hJ (by decide) dX0_giveBack_63 ?_
        rw [hy2]
        refine j_lstore hJ (by decide) dX0_giveBack_64 ?_
        refine j_iinc hJ (by decide) dX0_giveBack_66 rfl ?_
        refine j_goto (tgt := 7) hJ (by decide) dX0_giveBack_69 ?_
        refine j_re hJ (ih (k + 1) _ (y / 4294967296) (by omega) (dgs_upd hd ⟨by omega, by omega⟩) ⟨by omega, by omega⟩ (fun i i1 i2 => by rw [fset_ne (by omega)]; exact hi i i1 (by omega)) ?_) ⟨rfl, rfl, rfl, rfl, rfl, rfl, trivial⟩
        have e9 : vs 4294967296 (fun i => h (q + i)) (k + 1) = vs 4294967296 (fun i => h (q + i)) k + h (q + k) * 4294967296 ^ k := rfl
        have e8 : vs 4294967296 (fun i => Z 3 (q + i)) (k + 1) = vs 4294967296 (fun i => Z 3 (q + i)) k + Z 3 (q + k) * 4294967296 ^ k := rfl
        have e7 : vs 4294967296 (fun i => Z 4 (p + i)) (k + 1) = vs 4294967296 (fun i => Z 4 (p + i)) k + Z 4 (p + k) * 4294967296 ^ k := rfl
        rw [vs_win (by omega), e9, e8, e7, hy4, pw_s, ← q4]
        have := alg_give (H := h (q + k)) (d := Z 4 (p + k)) (t := y / 4294967296) hv hy
        grind
  refine j_lload hJ dX0_giveBack_0 rfl ?_
  refine j_lstore hJ (by decide) dX0_giveBack_2 ?_
  refine j_iconst hJ dX0_giveBack_4 ?_
  refine j_istore hJ (by decide) dX0_giveBack_5 ?_
  have h9 := loop n 0 (Z 3) dg (by omega) d3 ⟨by omega, by omega⟩ (fun _ _ _ => rfl) (by show (0 : Int) + dg * 4294967296 ^ 0 = 0 + 0 + dg; rw [Int.pow_zero]; omega)
  rw [zrw_id (fun _ _ => rfl)] at h9
  exact j_re hJ h9 ⟨rfl, rfl, rfl, rfl, rfl, rfl, trivial⟩
end X7
