/-- every number has its root -/
theorem rt_ex (x : Int) (hx : 0 ≤ x) : ∃ z : Int, 0 ≤ z ∧ z * z ≤ x ∧ x < (z + 1) * (z + 1) := by
  obtain ⟨n, rfl⟩ := Int.eq_ofNat_of_zero_le hx
  clear hx
  induction n with
  | zero => exact ⟨0, by decide, by decide, by decide⟩
  | succ n ih =>
    obtain ⟨z, h1, h2, h3⟩ := ih
    by_cases h : ((n + 1 : Nat) : Int) < (z + 1) * (z + 1)
    · exact ⟨z, h1, by omega, h⟩
    · refine ⟨z + 1, by omega, by omega, ?_⟩
      have e : (z + 1 + 1) * (z + 1 + 1) = (z + 1) * (z + 1) + 2 * z + 3 := by grind
      omega
/-- the guess for a word of the root: at most 3 too great -/
theorem root_guess {m : Nat} {x d : Nat → Int} {R : Int} (hx : dgs 4294967296 (m + 3) x) (hd : dgs 4294967296 (m + 1) d) (hT : vs 4294967296 d (m + 1) = 2 * R) (hw : 2147483648 ≤ d m) {z : Int} (hz : (4294967295 < (x (m + 2) * 4294967296 + x (m + 1)) / d m ∧ z = 4294967295) ∨ ((x (m + 2) * 4294967296 + x (m + 1)) / d m ≤ 4294967295 ∧ z = (x (m + 2) * 4294967296 + x (m + 1)) / d m))
    {c : Int} (hc0 : 0 ≤ c) (hc1 : c ≤ 4294967295) (hc2 : c * (2 * R * 4294967296 + c) ≤ vs 4294967296 x (m + 3)) (hc3 : vs 4294967296 x (m + 3) < (c + 1) * (2 * R * 4294967296 + (c + 1))) : c ≤ z ∧ z ≤ c + 3 ∧ z ≤ 4294967295 ∧ 0 ≤ R := by
  have hp := pw_pos (B := 4294967296) (by decide) m
  have x0 := vs_nonneg (B := 4294967296) (by decide) (dgs_mono hx (show m + 1 ≤ m + 3 by omega))
  have x1 := vs_lt (B := 4294967296) (by decide) (dgs_mono hx (show m + 1 ≤ m + 3 by omega))
  have d0 := vs_nonneg (B := 4294967296) (by decide) (dgs_mono hd (show m ≤ m + 1 by omega))
  have d1 := vs_lt (B := 4294967296) (by decide) (dgs_mono hd (show m ≤ m + 1 by omega))
  have hdn := hd m (by omega)
  have hxn := hx (m + 1) (by omega)
  have hxn1 := hx (m + 2) (by omega)
  have eX : vs 4294967296 x (m + 3) = vs 4294967296 x (m + 1) + (x (m + 2) * 4294967296 + x (m + 1)) * (4294967296 ^ m * 4294967296) := by
    rw [vs_s, vs_s, pw_s, pw_s]; grind
  have eD : vs 4294967296 d (m + 1) = vs 4294967296 d m + d m * 4294967296 ^ m := vs_s _ _ _
  have hP0 : 0 ≤ x (m + 2) * 4294967296 + x (m + 1) := by omega
  rw [pw_s] at x1
  have hm0 : m = 0 → vs 4294967296 d m = 0 := fun e => by subst e; rfl
  have hmK : m ≠ 0 → (4294967296 : Int) ≤ (4294967296 : Int) ^ m := fun e => by
    have := pw_mono (B := 4294967296) (by decide) (show 1 ≤ m by omega)
    rw [show (4294967296 : Int) ^ 1 = 4294967296 by decide] at this
    exact this
  have hK1 : m = 0 → (4294967296 : Int) ^ m = 1 := fun e => by subst e; rfl
  generalize x (m + 2) * 4294967296 + x (m + 1) = P at eX hz hP0
  generalize vs 4294967296 x (m + 1) = u at eX x0 x1
  generalize vs 4294967296 d m = v at eD d0 d1 hm0
  generalize d m = w at eD hdn hw hz
  generalize vs 4294967296 x (m + 3) = X at eX hc2 hc3
  rw [hT] at eD
  generalize hK : (4294967296 : Int) ^ m = K at *
  have hwK : 2147483648 * K ≤ w * K := Int.mul_le_mul_of_nonneg_right hw (Int.le_of_lt hp)
  have hR : 0 ≤ R := by omega
  have hE : 2 * R * 4294967296 = v * 4294967296 + w * K * 4294967296 := by rw [eD, Int.add_mul]
  generalize hEe : 2 * R * 4294967296 = E at hE hc2 hc3
  have hE0 : 0 < E := by omega
  have hzw : z * w ≤ P := by
    have h1 : z ≤ P / w := by omega
    have h2 := Int.mul_le_mul_of_nonneg_right h1 (show 0 ≤ w by omega)
    have h3 := Int.ediv_mul_le P (show w ≠ 0 by omega)
    omega
  have hPq : 0 ≤ P / w := Int.ediv_nonneg hP0 (by omega)
  have hz0 : 0 ≤ z := by omega
  have hzB : z ≤ 4294967295 := by omega
  have hcE : c * E ≤ X := by
    have : c * (E + c) = c * E + c * c := Int.mul_add _ _ _
    have := Int.mul_nonneg hc0 hc0
    omega
  have hPw : c ≤ P / w := by
    refine Int.le_ediv_of_mul_le (by omega) ?_
    rcases Int.lt_or_le P (c * w) with q | q
    · exfalso
      have c2 := Int.mul_le_mul_of_nonneg_right (show P + 1 ≤ c * w from q) (show 0 ≤ K * 4294967296 by omega)
      have c3 := Int.mul_le_mul_of_nonneg_left (show w * K * 4294967296 ≤ E by omega) hc0
      have c4 : c * w * (K * 4294967296) = c * (w * K * 4294967296) := by grind
      rw [Int.add_mul] at c2
      omega
    · exact q
  have h1 := Int.mul_le_mul_of_nonneg_right hzw (show 0 ≤ K * 4294967296 by omega)
  have h4 : z * (w * K * 4294967296) = z * w * (K * 4294967296) := by grind
  -- (z - 3) * (E + (z - 3)) is at most X
  have up : (z - 3) * (E + (z - 3)) ≤ X ∨ z ≤ 3 := by
    rcases Int.lt_or_le 3 z with z3 | z3
    · left
      have sq : (z - 3) * (z - 3) ≤ 4294967292 * 4294967292 := Int.mul_le_mul (by omega) (by omega) (by omega) (by decide)
      have e0 : (z - 3) * (E + (z - 3)) = z * E - 3 * E + (z - 3) * (z - 3) := by grind
      rcases Nat.eq_zero_or_pos m with m0 | m0
      · have e1 := hm0 m0
        have e2 := hK1 m0
        rw [e1, e2] at hE
        have e3 : z * E = z * w * (K * 4294967296) := by rw [hE, e2]; grind
        rw [e2] at hwK
        omega
      · have e2 := hmK (by omega)
        have h2 : z * E ≤ z * (w * K * 4294967296 + K * 4294967296) := Int.mul_le_mul_of_nonneg_left (by omega) hz0
        have h3 : z * (K * 4294967296) ≤ 4294967295 * (K * 4294967296) := Int.mul_le_mul_of_nonneg_right hzB (show 0 ≤ K * 4294967296 by omega)
        have h5 : z * (w * K * 4294967296 + K * 4294967296) = z * (w * K * 4294967296) + z * (K * 4294967296) := Int.mul_add _ _ _
        omega
    · right; omega
  have hle : z - 3 ≤ c := by
    rcases up with up | up
    · rcases Int.lt_or_le c (z - 3) with q | q
      · exfalso
        have e1 := Int.mul_le_mul (show c + 1 ≤ z - 3 from q) (show E + (c + 1) ≤ E + (z - 3) by omega) (by omega) (by omega)
        omega
      · exact q
    · omega
  exact ⟨by omega, by omega, hzB, hR⟩
section X11
variable (l : Launch) (D : va_G) (cI cO : ClassId) (a : Nat → Nat) (Z : ZZ)
set_option maxRecDepth 20000 in
theorem kX0_rootOfPair (P : Int) (hP : 0 ≤ P ∧ P < 4611686018427387904) : Ct l D [] wE yX0_rootOfPair wsX0_rootOfPair 0 0 0 [.long (lZ P)] () (fun v _ => ∃ r : Int, v = some (.long (lZ r)) ∧ 0 ≤ r ∧ r < 2147483648 ∧ r * r ≤ P ∧ P < (r + 1) * (r + 1)) nX := by
  refine Ct.of (cc := cX0_rootOfPair) (maxL := 7) (ret := some .long) rfl (by decide) rfl (Nat.le_of_ble_eq_true rfl) (fun J hJ => ?_)
  have loop : ∀ (b : Nat) (e : Int), b ≤ 31 → 0 ≤ e → e * 2 ^ b + 2 ^ b ≤ 2147483648 → e * 2 ^ b * (e * 2 ^ b) ≤ P → P < (e * 2 ^ b + 2 ^ b) * (e * 2 ^ b + 2 ^ b) → J () 0 6 [(0, .long (lZ P)), (2, .long (lZ (e * 2 ^ b))), (4, .int (iZ ((b : Int) - 1)))] [] := by
    intro b
    induction b with
    | zero =>
      intro e hb he hs h1 h2
      rw [Int.pow_zero, Int.mul_one] at hs h1 h2 ⊢
      refine j_iload hJ dX0_rootOfPair_6 rfl ?_
      refine j_if_lt (tgt := 38) hJ (by decide) ⟨by omega, by omega⟩ dX0_rootOfPair_8 (fun h8 => ?_) (fun h8 => ?_)
      · refine j_lload_n hJ dX0_rootOfPair_38 rfl ?_
        exact j_lret hJ (Nat.le_of_ble_eq_true rfl) (⟨e, rfl, he, by omega, h1, h2⟩) dX0_rootOfPair_39
      · omega
    | succ b ih =>
      intro e hb he hs h1 h2
      have hp := pw_pos (B := 2) (by decide) b
      have hp30 : (2 : Int) ^ b ≤ 1073741824 := by
        have := pw_mono (B := 2) (by decide) (show b ≤ 30 by omega)
        have e : (2 : Int) ^ 30 = 1073741824 := by decide
        omega
      rw [pw_s] at hs h1 h2 ⊢
      rw [show (((b + 1 : Nat) : Int) - 1) = (b : Int) by omega]
      have ee : e * (2 ^ b * 2) = e * 2 * 2 ^ b := by grind
      rw [ee] at hs h1 h2 ⊢
      have es : (e * 2 + 1) * 2 ^ b = e * 2 * 2 ^ b + 2 ^ b := by rw [Int.add_mul, Int.one_mul]
      have e0 : 0 ≤ e * 2 * 2 ^ b := Int.mul_nonneg (by omega) (Int.le_of_lt hp)
      have hor : lZ (e * 2 * 2 ^ b) ||| lZ (1 * ((2 ^ b : Nat) : Int)) = lZ ((e * 2 + 1) * 2 ^ b) := by
        have := lZ_or (a := e) (b := 2 ^ b) (n := b + 1) (by omega) ⟨Int.le_of_lt hp, by rw [pw2_cast, pw_s]; omega⟩
        rw [pw2_cast, pw_s, ee] at this
        rw [pw2_cast, Int.one_mul, this, es]
      have sq0 : 0 ≤ (e * 2 + 1) * 2 ^ b * ((e * 2 + 1) * 2 ^ b) := Int.mul_nonneg (by omega) (by omega)
      have tlt2 : (e * 2 + 1) * 2 ^ b < 2147483648 := by omega
      have sq1 : (e * 2 + 1) * 2 ^ b * ((e * 2 + 1) * 2 ^ b) ≤ 2147483647 * 2147483647 := Int.mul_le_mul (by omega) (by omega) (by omega) (by decide)
      have ihA := fun q1 q2 q3 => ih (e * 2 + 1) (by omega) (by omega) q1 q2 q3
      have ihB := fun q1 q2 q3 => ih (e * 2) (by omega) (by omega) q1 q2 q3
      have fA : (e * 2 + 1) * 2 ^ b + 2 ^ b = e * 2 * 2 ^ b + 2 ^ b * 2 := by omega
      refine j_iload hJ dX0_rootOfPair_6 rfl ?_
      refine j_if_lt (tgt := 38) hJ (by decide) ⟨by omega, by omega⟩ dX0_rootOfPair_8 (fun h8 => ?_) (fun h8 => ?_)
      · omega
      · refine j_lload_n hJ dX0_rootOfPair_11 rfl ?_
        refine j_lconst (z := 1) hJ (by decide) dX0_rootOfPair_12 ?_
        refine j_iload hJ dX0_rootOfPair_13 rfl ?_
        refine j_lshl (n := b) hJ (by omega) dX0_rootOfPair_15 ?_
        refine j_lor hJ hor dX0_rootOfPair_16 ?_
        refine j_lstore hJ (by decide) dX0_rootOfPair_17 ?_
        refine j_lload hJ dX0_rootOfPair_19 rfl ?_
        refine j_lload hJ dX0_rootOfPair_21 rfl ?_
        refine j_lmul hJ dX0_rootOfPair_23 ?_
        refine j_lload_n hJ dX0_rootOfPair_24 rfl ?_
        refine j_lcmp_gt (tgt := 32) hJ (by decide) ⟨by omega, by omega⟩ ⟨by omega, by omega⟩ dX0_rootOfPair_25 dX0_rootOfPair_26 (fun h25 => ?_) (fun h25 => ?_)
        · refine j_iinc hJ (by decide) dX0_rootOfPair_32 rfl ?_
          refine j_goto (tgt := 6) hJ (by decide) dX0_rootOfPair_35 ?_
          first | exact j_re hJ (ihB (by omega) h1 (by rw [← es]; omega)) ⟨rfl, rfl, rfl, trivial⟩ | exact j_re hJ (ihA (by omega) (by omega) (by rw [fA]; exact h2)) ⟨rfl, rfl, rfl, trivial⟩
        · refine j_lload hJ dX0_rootOfPair_29 rfl ?_
          refine j_lstore_n hJ (by decide) dX0_rootOfPair_31 ?_
          refine j_iinc hJ (by decide) dX0_rootOfPair_32 rfl ?_
          refine j_goto (tgt := 6) hJ (by decide) dX0_rootOfPair_35 ?_
          first | exact j_re hJ (ihB (by omega) h1 (by rw [← es]; omega)) ⟨rfl, rfl, rfl, trivial⟩ | exact j_re hJ (ihA (by omega) (by omega) (by rw [fA]; exact h2)) ⟨rfl, rfl, rfl, trivial⟩
  refine j_lconst (z := 0) hJ (by decide) dX0_rootOfPair_0 ?_
  refine j_lstore_n hJ (by decide) dX0_rootOfPair_1 ?_
  refine j_bipush hJ (by decide) dX0_rootOfPair_2 ?_
  refine j_istore hJ (by decide) dX0_rootOfPair_4 ?_
  exact j_re hJ (loop 31 0 (by omega) (by omega) (by decide) (by rw [Int.zero_mul]; omega) (by rw [Int.zero_mul, Int.zero_add, show (2 : Int) ^ 31 = 2147483648 by decide]; omega)) ⟨rfl, rfl, rfl, trivial⟩
end X11
