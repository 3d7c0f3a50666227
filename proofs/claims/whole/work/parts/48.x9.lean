/-- the guess from one word of the divisor -/
theorem knuth {n : Nat} {x d : Nat → Int} (hx : dgs 4294967296 (n + 2) x) (hd : dgs 4294967296 (n + 1) d) (hw : 2147483648 ≤ d n) (hX : vs 4294967296 x (n + 2) < vs 4294967296 d (n + 1) * 4294967296) {z : Int} (hz : (4294967295 < (x (n + 1) * 4294967296 + x n) / d n ∧ z = 4294967295) ∨ ((x (n + 1) * 4294967296 + x n) / d n ≤ 4294967295 ∧ z = (x (n + 1) * 4294967296 + x n) / d n)) :
    vs 4294967296 x (n + 2) / vs 4294967296 d (n + 1) ≤ z ∧ z ≤ vs 4294967296 x (n + 2) / vs 4294967296 d (n + 1) + 2 ∧ z ≤ 4294967295 ∧ 0 < vs 4294967296 d (n + 1) := by
  have hp := pw_pos (B := 4294967296) (by decide) n
  have x0 := vs_nonneg (B := 4294967296) (by decide) (dgs_mono hx (show n ≤ n + 2 by omega))
  have x1 := vs_lt (B := 4294967296) (by decide) (dgs_mono hx (show n ≤ n + 2 by omega))
  have d0 := vs_nonneg (B := 4294967296) (by decide) (dgs_mono hd (show n ≤ n + 1 by omega))
  have d1 := vs_lt (B := 4294967296) (by decide) (dgs_mono hd (show n ≤ n + 1 by omega))
  have hdn := hd n (by omega)
  have hxn := hx n (by omega)
  have hxn1 := hx (n + 1) (by omega)
  have eX : vs 4294967296 x (n + 2) = vs 4294967296 x n + (x (n + 1) * 4294967296 + x n) * 4294967296 ^ n := by
    rw [vs_s, vs_s, pw_s]; grind
  have eD : vs 4294967296 d (n + 1) = vs 4294967296 d n + d n * 4294967296 ^ n := vs_s _ _ _
  have hP0 : 0 ≤ x (n + 1) * 4294967296 + x n := by omega
  generalize x (n + 1) * 4294967296 + x n = P at eX hz hP0
  generalize vs 4294967296 x n = u at eX x0 x1
  generalize vs 4294967296 d n = v at eD d0 d1
  generalize d n = w at eD hdn hw hz
  generalize vs 4294967296 x (n + 2) = X at eX hX
  generalize vs 4294967296 d (n + 1) = E at eD hX
  generalize hK : (4294967296 : Int) ^ n = K at *
  have hwK : 2147483648 * K ≤ w * K := Int.mul_le_mul_of_nonneg_right hw (Int.le_of_lt hp)
  have hE : 0 < E := by omega
  have hX0 : 0 ≤ X := by have := Int.mul_nonneg hP0 (Int.le_of_lt hp); omega
  have hq0 : 0 ≤ X / E := Int.ediv_nonneg hX0 (Int.le_of_lt hE)
  have hq1 : X / E < 4294967296 := Int.ediv_lt_of_lt_mul hE (by rw [Int.mul_comm]; exact hX)
  have hqE : X / E * E ≤ X := Int.ediv_mul_le X (Int.ne_of_gt hE)
  have hPw : X / E ≤ P / w := by
    refine Int.le_ediv_of_mul_le (by omega) ?_
    rcases Int.lt_or_le P (X / E * w) with c | c
    · exfalso
      have c2 := Int.mul_le_mul_of_nonneg_right (show P + 1 ≤ X / E * w from c) (Int.le_of_lt hp)
      have c3 := Int.mul_le_mul_of_nonneg_left (show w * K ≤ E by omega) hq0
      have c4 : X / E * w * K = X / E * (w * K) := Int.mul_assoc _ _ _
      rw [Int.add_mul] at c2
      omega
    · exact c
  have hzw : z * w ≤ P := by
    have h1 : z ≤ P / w := by omega
    have h2 := Int.mul_le_mul_of_nonneg_right h1 (show 0 ≤ w by omega)
    have h3 := Int.ediv_mul_le P (show w ≠ 0 by omega)
    omega
  have hz0 : 0 ≤ z := by omega
  have hzB : z ≤ 4294967295 := by omega
  have up : (z - 2) * E ≤ X := by
    have h1 := Int.mul_le_mul_of_nonneg_right hzw (Int.le_of_lt hp)
    have h2 : z * E ≤ z * (w * K + K) := Int.mul_le_mul_of_nonneg_left (by omega) hz0
    have h3 : z * K ≤ 4294967295 * K := Int.mul_le_mul_of_nonneg_right hzB (Int.le_of_lt hp)
    have h4 : z * (w * K + K) = z * w * K + z * K := by grind
    rw [Int.sub_mul]
    omega
  have h5 : z - 2 ≤ X / E := Int.le_ediv_of_mul_le hE up
  exact ⟨by omega, by omega, hzB, hE⟩
section X9
variable (l : Launch) (D : va_G) (cI cO : ClassId) (a : Nat → Nat) (Z : ZZ)
set_option maxRecDepth 20000 in
theorem kX0_takeQuotientDigit (q n : Nat) (hn : q + (n + 1) < 514) (hn2 : n + 1 ≤ 512) (d3 : dgs 4294967296 514 (Z 3)) (d4 : dgs 4294967296 513 (Z 4)) (hw : 2147483648 ≤ Z 4 n) (hX : vs 4294967296 (fun i => Z 3 (q + i)) (n + 2) < vs 4294967296 (Z 4) (n + 1) * 4294967296) : Ct l D (tX cI cO) (wX cI cO a) yX0_takeQuotientDigit wsX0_takeQuotientDigit 2 0 54 [.ref (a 0), .int (iZ (q : Int)), .int (iZ ((n + 1 : Nat) : Int))] Z (fun v Z' => ∃ h : Nat → Int, v = some (.int (iZ (vs 4294967296 (fun i => Z 3 (q + i)) (n + 2) / vs 4294967296 (Z 4) (n + 1)))) ∧ Z' = zrw Z 3 514 h ∧ dgs 4294967296 514 h ∧ (∀ i, i < 514 → (i < q ∨ q + (n + 1) < i) → h i = Z 3 i) ∧ vs 4294967296 (fun i => h (q + i)) (n + 2) = vs 4294967296 (fun i => Z 3 (q + i)) (n + 2) - vs 4294967296 (fun i => Z 3 (q + i)) (n + 2) / vs 4294967296 (Z 4) (n + 1) * vs 4294967296 (Z 4) (n + 1)) nX := by
  refine Ct.of (cc := cX0_takeQuotientDigit) (maxL := 7) (ret := some .int) rfl (by decide) rfl (Nat.le_of_ble_eq_true rfl) (fun J hJ => ?_)
  have dwin : ∀ h : Nat → Int, dgs 4294967296 514 h → dgs 4294967296 (n + 2) (fun i => h (q + i)) := fun h hd i hi => hd (q + i) (by omega)
  have dd : dgs 4294967296 (n + 1) (Z 4) := dgs_mono d4 (by omega)
  have kn := fun z hz => knuth (n := n) (x := fun i => Z 3 (q + i)) (d := Z 4) (dwin _ d3) dd hw hX (z := z) hz
  have X0 := vs_nonneg (B := 4294967296) (by decide) (dwin _ d3)
  have hE0 := vs_nonneg (B := 4294967296) (by decide) dd
  have hE1 := vs_lt (B := 4294967296) (by decide) dd
  have hD4 : vs 4294967296 (fun i => Z 4 (0 + i)) (n + 1) = vs 4294967296 (Z 4) (n + 1) := vs_congr (fun i _ => by rw [Nat.zero_add])
  generalize hXe : vs 4294967296 (fun i => Z 3 (q + i)) (n + 2) = X at kn X0 hJ hX
  generalize hEe : vs 4294967296 (Z 4) (n + 1) = E at kn hE0 hE1 hJ hD4 hX
  have loop : 0 < E → ∀ (e : Nat) (o : Nat) (b : Int) (h : Nat → Int), o + e ≤ 2 → (b = 0 ∨ b = 1) → X / E + e ≤ 4294967295 → dgs 4294967296 514 h → (∀ i, i < 514 → (i < q ∨ q + (n + 1) < i) → h i = Z 3 i) → vs 4294967296 (fun i => h (q + i)) (n + 2) = X - (X / E + e) * E + b * 4294967296 ^ (n + 2) → J (zrw Z 3 514 h) 0 24 [(0, .ref (a 0)), (1, .int (iZ (q : Int))), (2, .int (iZ ((n + 1 : Nat) : Int))), (3, .long (lZ (X / E + e))), (5, .int (iZ b)), (6, .int (iZ (o : Int)))] [] := by
    intro hE e
    have hq0 : 0 ≤ X / E := Int.ediv_nonneg X0 (Int.le_of_lt hE)
    have hm1 := Int.mul_ediv_add_emod X E
    have hm2 := Int.emod_nonneg X (Int.ne_of_gt hE)
    have hm3 := Int.emod_lt_of_pos X hE
    rw [Int.mul_comm] at hm1
    induction e with
    | zero =>
      intro o b h ho hb hq2 hd hi hv
      have w1 := vs_lt (B := 4294967296) (by decide) (dwin h hd)
      have hb0 : b = 0 := by
        rcases hb with c | c
        · exact c
        · rw [c] at hv
          have : (X / E + ((0 : Nat) : Int)) * E = X / E * E := by rw [show ((0 : Nat) : Int) = 0 from rfl, Int.add_zero]
          omega
      subst hb0
      refine j_iload hJ dX0_takeQuotientDigit_24 rfl ?_
      refine j_if_eq (tgt := 55) hJ (by decide) ⟨by omega, by omega⟩ dX0_takeQuotientDigit_26 (fun h26 => ?_) (fun h26 => ?_)
      · refine j_lload_n hJ dX0_takeQuotientDigit_55 rfl ?_
        refine j_l2w hJ dX0_takeQuotientDigit_56 ?_
        exact j_iret hJ (Nat.le_of_ble_eq_true rfl) (⟨h, by rw [show X / E + ((0 : Nat) : Int) = X / E by omega, Int.emod_eq_of_lt hq0 (by omega)], rfl, hd, hi, by rw [hv, show X / E + ((0 : Nat) : Int) = X / E by omega]; omega⟩) dX0_takeQuotientDigit_57
      · omega
    | succ e ih =>
      intro o b h ho hb hq2 hd hi hv
      have w0 := vs_nonneg (B := 4294967296) (by decide) (dwin h hd)
      have hneg : X - (X / E + ((e + 1 : Nat) : Int)) * E < 0 := by
        have h1 : (X / E + ((e + 1 : Nat) : Int)) * E = X / E * E + ((e + 1 : Nat) : Int) * E := Int.add_mul _ _ _
        have h2 := Int.mul_le_mul_of_nonneg_right (show (1 : Int) ≤ ((e + 1 : Nat) : Int) by omega) (Int.le_of_lt hE)
        omega
      have hb1 : b = 1 := by
        rcases hb with c | c
        · rw [c] at hv; omega
        · exact c
      subst hb1
      have z3 : ∀ i, i < 514 → zrw Z 3 514 h 3 i = h i := fun i hi => zrw_in hi
      have z4 : zrw Z 3 514 h 4 = Z 4 := zrw_off (by omega)
      have e1 : vs 4294967296 (fun i => zrw Z 3 514 h 3 (q + i)) (n + 1 + 1) = vs 4294967296 (fun i => h (q + i)) (n + 2) := vs_congr (fun i hi => z3 _ (by omega))
      refine j_iload hJ dX0_takeQuotientDigit_24 rfl ?_
      refine j_if_eq (tgt := 55) hJ (by decide) ⟨by omega, by omega⟩ dX0_takeQuotientDigit_26 (fun h => absurd h (by decide)) (fun _ => ?_)
      refine j_iload hJ dX0_takeQuotientDigit_29 rfl ?_
      refine j_iconst hJ dX0_takeQuotientDigit_31 ?_
      refine j_icmp_ge (tgt := 55) hJ (by decide) ⟨by omega, by omega⟩ ⟨by omega, by omega⟩ dX0_takeQuotientDigit_32 (fun h32 => ?_) (fun h32 => ?_)
      · omega
      · refine j_lload_n hJ dX0_takeQuotientDigit_35 rfl ?_
        refine j_lconst (z := 1) hJ (by decide) dX0_takeQuotientDigit_36 ?_
        refine j_lsub hJ dX0_takeQuotientDigit_37 ?_
        refine j_lstore_n hJ (by decide) dX0_takeQuotientDigit_38 ?_
        refine j_aload_n hJ dX0_takeQuotientDigit_39 rfl ?_
        refine j_iload_n hJ dX0_takeQuotientDigit_40 rfl ?_
        refine j_iconst hJ dX0_takeQuotientDigit_41 ?_
        refine j_iload_n hJ dX0_takeQuotientDigit_42 rfl ?_
        refine j_lconst (z := 0) hJ (by decide) dX0_takeQuotientDigit_43 ?_
        refine j_callV hJ (kX0_giveBack l D cI cO a (zrw Z 3 514 h) q 0 (n + 1) 0 (by omega) (by omega) ⟨by omega, by omega⟩ (by omega) (fun i hi => by rw [z3 i hi]; exact hd i hi) (by rw [z4]; exact d4)) rfl gX0_takeQuotientDigit_X0_giveBack rfl hdX0_giveBack rfl ⟨Nat.le_of_ble_eq_true rfl, Nat.le_of_ble_eq_true rfl⟩ (Nat.le_of_ble_eq_true rfl) (Nat.le_of_ble_eq_true rfl) rfl rfl dX0_takeQuotientDigit_44 (fun _ _ h => False.elim h) (fun r44 Z44 hp44 => ?_)
        obtain ⟨h4, b4, rfl, hb4, rfl, hd4, hi4, hv4⟩ := hp44
        rw [zrw_zrw (Nat.le_refl _)]
        rw [e1, z4, hD4, show n + 1 + 1 = n + 2 from rfl] at hv4
        refine j_istore hJ (by decide) dX0_takeQuotientDigit_47 ?_
        refine j_iinc hJ (by decide) dX0_takeQuotientDigit_49 rfl ?_
        refine j_goto (tgt := 24) hJ (by decide) dX0_takeQuotientDigit_52 ?_
        refine j_re hJ (ih (o + 1) (1 - b4) h4 (by omega) (by omega) (by omega) hd4 (fun i i1 i2 => by rw [hi4 i i1 i2, z3 i i1]; exact hi i i1 i2) ?_) ⟨rfl, rfl, rfl, by show some (Value.long (lZ (X / E + ((e + 1 : Nat) : Int) - 1))) = _; rw [show X / E + ((e + 1 : Nat) : Int) - 1 = X / E + (e : Int) by omega], rfl, rfl, trivial⟩
        have h7 : (X / E + ((e + 1 : Nat) : Int)) * E = (X / E + (e : Int)) * E + E := (by rw [show X / E + ((e + 1 : Nat) : Int) = X / E + (e : Int) + 1 by omega, Int.add_mul, Int.one_mul])
        rw [hv, h7] at hv4
        have h8 : (1 - b4) * 4294967296 ^ (n + 2) = 4294967296 ^ (n + 2) - b4 * 4294967296 ^ (n + 2) := (by rw [Int.sub_mul, Int.one_mul])
        rw [h8]
        omega
  refine j_aload_n hJ dX0_takeQuotientDigit_0 rfl ?_
  refine j_iload_n hJ dX0_takeQuotientDigit_1 rfl ?_
  refine j_iload_n hJ dX0_takeQuotientDigit_2 rfl ?_
  rw [show ((q : Int)) = ((q : Nat) : Int) from rfl]
  refine j_iadd hJ dX0_takeQuotientDigit_3 ?_
  rw [show ((q : Nat) : Int) + ((n + 1 : Nat) : Int) = ((q + (n + 1) : Nat) : Int) by omega]
  refine j_iload_n hJ dX0_takeQuotientDigit_4 rfl ?_
  refine j_iconst hJ dX0_takeQuotientDigit_5 ?_
  refine j_isub hJ dX0_takeQuotientDigit_6 ?_
  rw [show ((n + 1 : Nat) : Int) - 1 = ((n : Nat) : Int) by omega]
  refine j_callV hJ (kX0_guessDigit l D cI cO a Z (q + (n + 1)) n ⟨by omega, by omega⟩ (by omega) d3 d4 hw) rfl gX0_takeQuotientDigit_X0_guessDigit rfl hdX0_guessDigit rfl ⟨Nat.le_of_ble_eq_true rfl, Nat.le_of_ble_eq_true rfl⟩ (Nat.le_of_ble_eq_true rfl) (Nat.le_of_ble_eq_true rfl) rfl rfl dX0_takeQuotientDigit_7 (fun _ _ h => False.elim h) (fun r7 Z7 hp7 => ?_)
  obtain ⟨⟨z, rfl, hz⟩, rfl⟩ := hp7
  rw [show q + (n + 1) - 1 = q + n by omega] at hz
  obtain ⟨k1, k2, k3, k4⟩ := kn z hz
  have hq0 : 0 ≤ X / E := Int.ediv_nonneg X0 (Int.le_of_lt k4)
  refine j_lstore_n hJ (by decide) dX0_takeQuotientDigit_10 ?_
  refine j_aload_n hJ dX0_takeQuotientDigit_11 rfl ?_
  refine j_iload_n hJ dX0_takeQuotientDigit_12 rfl ?_
  refine j_iconst hJ dX0_takeQuotientDigit_13 ?_
  refine j_iload_n hJ dX0_takeQuotientDigit_14 rfl ?_
  refine j_lload_n hJ dX0_takeQuotientDigit_15 rfl ?_
  refine j_callV hJ (kX0_takeMultiple l D cI cO a Z q 0 (n + 1) z (by omega) (by omega) ⟨by omega, by omega⟩ d3 d4) rfl gX0_takeQuotientDigit_X0_takeMultiple rfl hdX0_takeMultiple rfl ⟨Nat.le_of_ble_eq_true rfl, Nat.le_of_ble_eq_true rfl⟩ (Nat.le_of_ble_eq_true rfl) (Nat.le_of_ble_eq_true rfl) rfl rfl dX0_takeQuotientDigit_16 (fun _ _ h => False.elim h) (fun r16 Z16 hp16 => ?_)
  obtain ⟨h6, b6, rfl, hb6, rfl, hd6, hi6, hv6⟩ := hp16
  rw [hD4, show n + 1 + 1 = n + 2 from rfl, hXe] at hv6
  refine j_istore hJ (by decide) dX0_takeQuotientDigit_19 ?_
  refine j_iconst hJ dX0_takeQuotientDigit_21 ?_
  refine j_istore hJ (by decide) dX0_takeQuotientDigit_22 ?_
  obtain ⟨e, he⟩ : ∃ e : Nat, z = X / E + (e : Int) := ⟨(z - X / E).toNat, by omega⟩
  subst he
  exact j_re hJ (loop k4 e 0 b6 h6 (by omega) hb6 (by omega) hd6 hi6 hv6) ⟨rfl, rfl, rfl, rfl, rfl, rfl, trivial⟩
/-- the state of a division: what is left, the divisor, the quotient so far -/
def st3 (Z : ZZ) (L d Q : Nat → Int) : ZZ := zrw (zrw (zrw Z 3 514 L) 4 513 d) 2 513 Q
theorem st3_L (Z : ZZ) (L d Q f : Nat → Int) : zrw (st3 Z L d Q) 3 514 f = st3 Z f d Q := by
  unfold st3; rw [zrw_comm (j := 2) (by decide), zrw_comm (j := 4) (by decide), zrw_zrw (Nat.le_refl _)]
theorem st3_Q (Z : ZZ) (L d Q f : Nat → Int) : zrw (st3 Z L d Q) 2 513 f = st3 Z L d f := zrw_zrw (Nat.le_refl _)
theorem st3_Qu (Z : ZZ) (L d Q : Nat → Int) {i : Nat} {v : Int} (hi : i < 513) : zup (st3 Z L d Q) 2 i v = st3 Z L d (fset Q i v) := zrw_upd hi
theorem st3_d (Z : ZZ) (L d Q f : Nat → Int) : zrw (st3 Z L d Q) 4 513 f = st3 Z L f Q := by
  unfold st3; rw [zrw_comm (j := 2) (by decide), zrw_zrw (Nat.le_refl _)]
theorem st3_2 {Z : ZZ} {L d Q : Nat → Int} {i : Nat} (h : i < 513) : st3 Z L d Q 2 i = Q i := zrw_in h
theorem st3_3 {Z : ZZ} {L d Q : Nat → Int} {i : Nat} (h : i < 514) : st3 Z L d Q 3 i = L i := by unfold st3; rw [zrw_off (by decide), zrw_off (by decide), zrw_in h]
theorem st3_4 {Z : ZZ} {L d Q : Nat → Int} {i : Nat} (h : i < 513) : st3 Z L d Q 4 i = d i := by unfold st3; rw [zrw_off (by decide), zrw_in h]
theorem st3_off {Z : ZZ} {L d Q : Nat → Int} {j : Nat} (h2 : j ≠ 2) (h3 : j ≠ 3) (h4 : j ≠ 4) : st3 Z L d Q j = Z j := by unfold st3; rw [zrw_off h2, zrw_off h4, zrw_off h3]
theorem st3_XI {Z : ZZ} {g : Nat → Int} (h : XI Z g) {L d Q : Nat → Int} (hL : dgs 4294967296 514 L) (hd : dgs 4294967296 513 d) (hQ : dgs 4294967296 513 Q) : XI (st3 Z L d Q) g :=
  h.scr (fun j a1 a2 a3 => st3_off a1 a2 a3) (fun i hi => by rw [st3_2 hi]; exact hQ i hi) (fun i hi => by rw [st3_3 hi]; exact hL i hi) (fun i hi => by rw [st3_4 hi]; exact hd i hi)
/-- a number by its window and what lies below it -/
theorem vs_cut {L : Nat → Int} {q m N : Nat} (hN : q + m ≤ N) (hz : ∀ i, q + m ≤ i → i < N → L i = 0) : vs 4294967296 L N = vs 4294967296 L q + 4294967296 ^ q * vs 4294967296 (fun i => L (q + i)) m := by
  rw [vs_top hN hz, vs_add]
theorem low_zero {L : Nat → Int} {N m : Nat} (hd : dgs 4294967296 N L) (h : vs 4294967296 L N < 4294967296 ^ m) : ∀ i, m ≤ i → i < N → L i = 0 := fun i h1 h2 => lenr_zero L N i (Nat.le_trans ((lenr_iff (B := 4294967296) (by decide) hd).mpr h) h1) h2
/-- one step of the long division -/
theorem ld_step {A E Q v low X P q : Int} (hP : 0 < P) (hA : A = E * Q + v) (hv : v = low + P * X) (hl : 0 ≤ low ∧ low < P) (hE : 0 < E) (hq : q = X / E) : A = E * (Q + q * P) + (low + P * (X - q * E)) ∧ low + P * (X - q * E) < E * P := by
  refine ⟨by subst hA; subst hv; grind, ?_⟩
  have h1 := Int.emod_lt_of_pos X hE
  have h2 := Int.mul_ediv_add_emod X E
  rw [← hq] at h2
  have h3 : X - q * E + 1 ≤ E := by
    have : E * q = q * E := Int.mul_comm _ _
    omega
  have h4 := Int.mul_le_mul_of_nonneg_left h3 (Int.le_of_lt hP)
  rw [Int.mul_add, Int.mul_one, Int.mul_comm P E] at h4
  omega
set_option maxRecDepth 20000 in
theorem kX0_divideSizes (g : Nat → Int) (hI : XI Z g) (r1 r2 : Int) (up : Nat) (h1 : 0 ≤ r1 ∧ r1 < 12) (h2 : 0 ≤ r2 ∧ r2 < 12) (hup : up < 32) (n : Nat) (hn : lenr (Z (r2.toNat + 5)) 512 = n + 1) (hbig : 2147483648 * 4294967296 ^ n ≤ ((g r2.toNat).natAbs : Int) * 2 ^ up) (hsml : ((g r2.toNat).natAbs : Int) * 2 ^ up < 4294967296 ^ (n + 1)) :
    Ct l D (tX cI cO) (wX cI cO a) yX0_divideSizes wsX0_divideSizes 3 0 80 [.ref (a 0), .int (iZ r1), .int (iZ r2), .int (iZ (up : Int))] Z (fun v Z' => v = none ∧ ∃ L d Q, Z' = st3 Z L d Q ∧ dgs 4294967296 514 L ∧ dgs 4294967296 513 d ∧ dgs 4294967296 513 Q ∧ Q 512 = 0 ∧ vs 4294967296 Q 513 = ((g r1.toNat).natAbs : Int) / ((g r2.toNat).natAbs : Int) ∧ vs 4294967296 L (n + 1) = ((g r1.toNat).natAbs : Int) % ((g r2.toNat).natAbs : Int) * 2 ^ up) nX := by
  refine Ct.of (cc := cX0_divideSizes) (maxL := 6) (ret := none) rfl (by decide) rfl (Nat.le_of_ble_eq_true rfl) (fun J hJ => ?_)
  have hin : ∀ w ∈ u_ws RX0 TX0 6, w ∈ wsX0_divideSizes := by decide +kernel
  have hln1 := lenr_le (Z (r1.toNat + 5)) 512
  have hln2 := lenr_le (Z (r2.toNat + 5)) 512
  obtain ⟨d1, v1, s1, c1⟩ := hI.2 r1.toNat (by omega)
  obtain ⟨d2, v2, s2, c2⟩ := hI.2 r2.toNat (by omega)
  have hA1 : ((g r1.toNat).natAbs : Int) < 4294967296 ^ (lenr (Z (r1.toNat + 5)) 512) := by rw [← v1]; exact lenr_lt (by decide) d1
  have hpu := pw_pos (B := 2) (by decide) up
  have hpu2 : (2 : Int) ^ up ≤ 2147483648 := by
    have := pw_mono (B := 2) (by decide) (show up ≤ 31 by omega)
    have e : (2 : Int) ^ 31 = 2147483648 := by decide
    omega
  rw [hn] at c2
  have hA0 : (0 : Int) ≤ ((g r1.toNat).natAbs : Int) := by omega
  have hB0 : (0 : Int) ≤ ((g r2.toNat).natAbs : Int) := by omega
  have hLim : ((g r1.toNat).natAbs : Int) < LIM := hI.lim (by omega)
  have m1 := fun Z9 (hI9 : XI Z9 g) => kX0_moveUp l D cI cO a Z9 g hI9 r1 up 3 514 h1 (by omega) (Or.inl ⟨rfl, rfl⟩)
  have m2 := fun Z9 (hI9 : XI Z9 g) => kX0_moveUp l D cI cO a Z9 g hI9 r2 up 4 513 h2 (by omega) (Or.inr ⟨rfl, rfl⟩)
  generalize hAe : ((g r1.toNat).natAbs : Int) = A at hA1 hA0 hLim hJ m1
  generalize hBe : ((g r2.toNat).natAbs : Int) = b at hB0 hbig hsml hJ m2
  generalize hN1 : lenr (Z (r1.toNat + 5)) 512 = na at hA1 c1 hln1
  have hpn := pw_pos (B := 4294967296) (by decide) n
  have hE0 : 0 < b * 2 ^ up := by omega
  have hb0 : 0 < b := by
    rcases Int.lt_or_le 0 b with c | c
    · exact c
    · rw [show b = 0 by omega, Int.zero_mul] at hE0; omega
  have loop : ∀ (d : Nat → Int), dgs 4294967296 513 d → vs 4294967296 d 513 = b * 2 ^ up → ∀ (t : Nat) (L Q : Nat → Int) (s : Int), ((1 ≤ t ∧ s = (t : Int) - 1) ∨ (t = 0 ∧ -600 ≤ s ∧ s < 0)) → t + n ≤ 512 → dgs 4294967296 514 L → dgs 4294967296 513 Q → (∀ i, i < t → Q i = 0) → A * 2 ^ up = b * 2 ^ up * vs 4294967296 Q 513 + vs 4294967296 L 514 → vs 4294967296 L 514 < b * 2 ^ up * 4294967296 ^ t → J (st3 Z L d Q) 0 47 [(0, .ref (a 0)), (4, .int (iZ ((n + 1 : Nat) : Int))), (5, .int (iZ s))] [] := by
    intro d hd hdv t
    have dz := low_zero hd (m := n + 1) (by rw [hdv]; exact hsml)
    have dv2 : vs 4294967296 d (n + 1) = b * 2 ^ up := by rw [← hdv]; exact (vs_top (by omega) dz).symm
    have dtop : 2147483648 ≤ d n := by
      have q0 := vs_lt (B := 4294967296) (by decide) (dgs_mono hd (show n ≤ 513 by omega))
      have q1 : vs 4294967296 d (n + 1) = vs 4294967296 d n + d n * 4294967296 ^ n := vs_s _ _ _
      rcases Int.lt_or_le (d n) 2147483648 with c | c
      · have := Int.mul_le_mul_of_nonneg_right (show d n + 1 ≤ 2147483648 from c) (Int.le_of_lt hpn)
        rw [Int.add_mul, Int.one_mul] at this
        omega
      · exact c
    induction t with
    | zero =>
      intro L Q s hs ht hL hQ hQ0 hv hlt
      rw [Int.pow_zero, Int.mul_one] at hlt
      have hL0 := vs_nonneg (B := 4294967296) (by decide) hL
      have hLz := low_zero hL (m := n + 1) (by omega)
      have hLn : vs 4294967296 L (n + 1) = vs 4294967296 L 514 := (vs_top (by omega) hLz).symm
      have hQv : vs 4294967296 Q 513 = A / b := by
        have e : A * 2 ^ up = vs 4294967296 L 514 + b * 2 ^ up * vs 4294967296 Q 513 := by omega
        have e2 : A * 2 ^ up / (b * 2 ^ up) = vs 4294967296 Q 513 := by rw [e, Int.add_mul_ediv_left _ _ (Int.ne_of_gt hE0), Int.ediv_eq_zero_of_lt hL0 hlt, Int.zero_add]
        rw [← e2, Int.mul_ediv_mul_of_pos_left _ _ hpu]
      have hR : vs 4294967296 L 514 = A % b * 2 ^ up := by
        have e := Int.mul_ediv_add_emod A b
        rw [hQv] at hv
        have e3 : (b * (A / b) + A % b) * 2 ^ up = A * 2 ^ up := by rw [e]
        rw [Int.add_mul] at e3
        have e4 : b * (A / b) * 2 ^ up = b * 2 ^ up * (A / b) := by grind
        omega
      have hQs : Q 512 = 0 := by
        have q1 := vs_nonneg (B := 4294967296) (by decide) (dgs_mono hQ (show 512 ≤ 513 by omega))
        have q2 := hQ 512 (by omega)
        have q3 : vs 4294967296 Q 513 < LIM := by rw [hQv]; exact Int.lt_of_le_of_lt (Int.ediv_le_self _ hA0) hLim
        rw [vs_513] at q3
        rcases Int.lt_or_le 0 (Q 512) with c | c
        · have := Int.mul_le_mul_of_nonneg_right (show 1 ≤ Q 512 from c) (Int.le_of_lt LIM_pos)
          omega
        · omega
      refine j_iload hJ dX0_divideSizes_47 rfl ?_
      refine j_if_lt (tgt := 73) hJ (by decide) ⟨by omega, by omega⟩ dX0_divideSizes_49 (fun h49 => ?_) (fun h49 => ?_)
      · exact j_vret hJ (Nat.le_of_ble_eq_true rfl) (⟨rfl, L, d, Q, rfl, hL, hd, hQ, hQs, hQv, by rw [hLn, hR]⟩) dX0_divideSizes_73
      · omega
    | succ t ih =>
      intro L Q s hs ht hL hQ hQ0 hv hlt
      have hpt := pw_pos (B := 4294967296) (by decide) t
      have hLB : vs 4294967296 L 514 < 4294967296 ^ (t + (n + 2)) := by
        have q1 := Int.mul_le_mul_of_nonneg_right (Int.le_of_lt hsml) (Int.le_of_lt (pw_pos (B := 4294967296) (by decide) (t + 1)))
        rw [← Int.pow_add, show n + 1 + (t + 1) = t + (n + 2) by omega] at q1
        omega
      have hLz := low_zero hL hLB
      have hcut := vs_cut (q := t) (m := n + 2) (N := 514) (by omega) hLz
      have hl0 := vs_nonneg (B := 4294967296) (by decide) (dgs_mono hL (show t ≤ 514 by omega))
      have hl1 := vs_lt (B := 4294967296) (by decide) (dgs_mono hL (show t ≤ 514 by omega))
      have dS3 : dgs 4294967296 514 (st3 Z L d Q 3) := fun i hi => by rw [st3_3 hi]; exact hL i hi
      have dS4 : dgs 4294967296 513 (st3 Z L d Q 4) := fun i hi => by rw [st3_4 hi]; exact hd i hi
      have w3 : vs 4294967296 (fun i => st3 Z L d Q 3 (t + i)) (n + 2) = vs 4294967296 (fun i => L (t + i)) (n + 2) := vs_congr (fun i hi => st3_3 (by omega))
      have w4 : vs 4294967296 (st3 Z L d Q 4) (n + 1) = b * 2 ^ up := by rw [vs_congr (g := d) (fun i hi => st3_4 (by omega))]; exact dv2
      have hXlt : vs 4294967296 (fun i => L (t + i)) (n + 2) < b * 2 ^ up * 4294967296 := by
        rcases Int.lt_or_le (vs 4294967296 (fun i => L (t + i)) (n + 2)) (b * 2 ^ up * 4294967296) with c | c
        · exact c
        · have := Int.mul_le_mul_of_nonneg_left c (Int.le_of_lt hpt)
          rw [pw_s] at hlt
          have e : 4294967296 ^ t * (b * 2 ^ up * 4294967296) = b * 2 ^ up * (4294967296 ^ t * 4294967296) := by grind
          omega
      have hcon := kX0_takeQuotientDigit l D cI cO a (st3 Z L d Q) t n (by omega) (by omega) dS3 dS4 (by rw [st3_4 (by omega)]; exact dtop) (by rw [w3, w4]; exact hXlt)
      rw [w3, w4] at hcon
      have X0 : 0 ≤ vs 4294967296 (fun i => L (t + i)) (n + 2) := vs_nonneg (B := 4294967296) (by decide) (fun i hi => hL (t + i) (by omega))
      generalize hXe : vs 4294967296 (fun i => L (t + i)) (n + 2) = X at hcut hXlt hcon X0
      have hq0 : 0 ≤ X / (b * 2 ^ up) := Int.ediv_nonneg X0 (Int.le_of_lt hE0)
      have hq1 : X / (b * 2 ^ up) < 4294967296 := Int.ediv_lt_of_lt_mul hE0 (by rw [Int.mul_comm]; exact hXlt)
      have st := ld_step hpt hv hcut ⟨hl0, hl1⟩ hE0 rfl
      rw [show s = (t : Int) by omega]
      refine j_iload hJ dX0_divideSizes_47 rfl ?_
      refine j_if_lt (tgt := 73) hJ (by decide) ⟨by omega, by omega⟩ dX0_divideSizes_49 (fun h49 => ?_) (fun h49 => ?_)
      · omega
      · refine j_aload_n hJ dX0_divideSizes_52 rfl ?_
        refine x_result hJ hin (by decide +kernel) dX0_divideSizes_53 ?_
        refine j_iload hJ dX0_divideSizes_56 rfl ?_
        refine j_aload_n hJ dX0_divideSizes_58 rfl ?_
        refine j_iload hJ dX0_divideSizes_59 rfl ?_
        refine j_iload hJ dX0_divideSizes_61 rfl ?_
        refine j_callV hJ hcon rfl gX0_divideSizes_X0_takeQuotientDigit rfl hdX0_takeQuotientDigit rfl ⟨Nat.le_of_ble_eq_true rfl, Nat.le_of_ble_eq_true rfl⟩ (Nat.le_of_ble_eq_true rfl) (Nat.le_of_ble_eq_true rfl) rfl rfl dX0_divideSizes_63 (fun _ _ h => False.elim h) (fun r63 Z63 hp63 => ?_)
        obtain ⟨h6, rfl, rfl, hd6, hi6, hv6⟩ := hp63
        rw [st3_L]
        refine x_ast_r hJ ⟨by omega, by omega⟩ dX0_divideSizes_66 ?_
        rw [show ((t : Nat) : Int).toNat = t by omega, st3_Qu _ _ _ _ (by omega)]
        refine j_iinc hJ (by decide) dX0_divideSizes_67 rfl ?_
        refine j_goto (tgt := 47) hJ (by decide) dX0_divideSizes_70 ?_
        have hcut6 := vs_cut (L := h6) (q := t) (m := n + 2) (N := 514) (by omega) (fun i i1 i2 => by rw [hi6 i i2 (by omega), st3_3 i2]; exact hLz i i1 i2)
        rw [hv6, vs_congr (f := h6) (g := L) (n := t) (fun i i1 => by rw [hi6 i (by omega) (Or.inl i1), st3_3 (by omega)])] at hcut6
        exact j_re hJ (ih h6 _ ((t : Int) - 1) (by omega) (by omega) hd6 (dgs_upd hQ ⟨hq0, hq1⟩) (fun i i1 => by rw [fset_ne (by omega)]; exact hQ0 i (by omega)) (by rw [vs_upd _ (by omega), hQ0 t (by omega), Int.sub_zero, hcut6]; exact st.1) (by rw [hcut6]; exact st.2)) ⟨rfl, rfl, rfl, trivial⟩
  have start : ∀ (L0 d0 : Nat → Int), dgs 4294967296 514 L0 → dgs 4294967296 513 d0 → vs 4294967296 L0 514 = A * 2 ^ up → vs 4294967296 d0 513 = b * 2 ^ up → J (st3 Z L0 d0 (fun _ => 0)) 0 28 [(0, .ref (a 0)), (1, .int (iZ r1)), (2, .int (iZ r2))] [] := by
    intro L0 d0 hL0 hd0 vL vd
    have y0 : st3 Z L0 d0 (fun _ => 0) 0 = Z 0 := st3_off (by omega) (by omega) (by omega)
    have zd : dgs 4294967296 513 (fun _ => 0) := fun _ _ => ⟨by show (0 : Int) ≤ 0; decide, by show (0 : Int) < 4294967296; decide⟩
    have vz : vs 4294967296 (fun _ => 0) 513 = 0 := vs_zero (fun _ _ => rfl)
    have hAu : A * 2 ^ up < 4294967296 ^ na * 2147483648 := by
      have q1 := Int.mul_lt_mul_of_pos_right hA1 hpu
      have q2 := Int.mul_le_mul_of_nonneg_left hpu2 (Int.le_of_lt (pw_pos (B := 4294967296) (by decide) na))
      omega
    refine j_aload_n hJ dX0_divideSizes_28 rfl ?_
    refine x_counts hJ hin (by decide +kernel) dX0_divideSizes_29 ?_
    refine j_iload_n hJ dX0_divideSizes_32 rfl ?_
    refine x_ald_c hJ ⟨by omega, by omega⟩ dX0_divideSizes_33 ?_
    rw [y0, c2]
    refine j_istore hJ (by decide) dX0_divideSizes_34 ?_
    refine j_aload_n hJ dX0_divideSizes_36 rfl ?_
    refine x_counts hJ hin (by decide +kernel) dX0_divideSizes_37 ?_
    refine j_iload_n hJ dX0_divideSizes_40 rfl ?_
    refine x_ald_c hJ ⟨by omega, by omega⟩ dX0_divideSizes_41 ?_
    rw [y0, c1]
    refine j_iload hJ dX0_divideSizes_42 rfl ?_
    refine j_isub hJ dX0_divideSizes_44 ?_
    refine j_istore hJ (by decide) dX0_divideSizes_45 ?_
    rcases Nat.lt_or_ge n na with q | q
    · refine j_re hJ (loop d0 hd0 vd (na - n) L0 (fun _ => 0) (((na : Nat) : Int) - ((n + 1 : Nat) : Int)) (by omega) (by omega) hL0 zd (fun _ _ => rfl) (by rw [vz, vL]; omega) ?_) ⟨rfl, rfl, rfl, trivial⟩; rw [vL]; have q3 := Int.mul_le_mul_of_nonneg_right hbig (Int.le_of_lt (pw_pos (B := 4294967296) (by decide) (na - n))); rw [Int.mul_assoc, ← Int.pow_add, show n + (na - n) = na by omega] at q3; omega
    · refine j_re hJ (loop d0 hd0 vd 0 L0 (fun _ => 0) (((na : Nat) : Int) - ((n + 1 : Nat) : Int)) (by omega) (by omega) hL0 zd (fun _ _ => rfl) (by rw [vz, vL]; omega) ?_) ⟨rfl, rfl, rfl, trivial⟩; rw [vL, Int.pow_zero, Int.mul_one]; have q3 := pw_mono (B := 4294967296) (by decide) (show na ≤ n from q); omega
  refine j_aload_n hJ dX0_divideSizes_0 rfl ?_
  refine j_iload_n hJ dX0_divideSizes_1 rfl ?_
  refine j_iload_n hJ dX0_divideSizes_2 rfl ?_
  refine j_aload_n hJ dX0_divideSizes_3 rfl ?_
  refine x_left hJ hin (by decide +kernel) dX0_divideSizes_4 ?_
  refine j_callV hJ (m1 Z hI (by omega)) rfl gX0_divideSizes_X0_moveUp rfl hdX0_moveUp rfl ⟨Nat.le_of_ble_eq_true rfl, Nat.le_of_ble_eq_true rfl⟩ (Nat.le_of_ble_eq_true rfl) (Nat.le_of_ble_eq_true rfl) rfl rfl dX0_divideSizes_7 (fun _ _ h => False.elim h) (fun r7 Z7 hp7 => ?_)
  obtain ⟨rfl, L0, rfl, hL0, vL⟩ := hp7
  have hI1 : XI (zrw Z 3 514 L0) g := hI.scr (fun j a1 a2 a3 => zrw_off a2) (by rw [zrw_off (by omega)]; exact hI.1.1) (fun i hi => by rw [zrw_in hi]; exact hL0 i hi) (by rw [zrw_off (by omega)]; exact hI.1.2.2)
  have e5 : zrw Z 3 514 L0 (r2.toNat + 5) = Z (r2.toNat + 5) := zrw_off (by omega)
  refine j_aload_n hJ dX0_divideSizes_10 rfl ?_
  refine j_iload_n hJ dX0_divideSizes_11 rfl ?_
  refine j_iload_n hJ dX0_divideSizes_12 rfl ?_
  refine j_aload_n hJ dX0_divideSizes_13 rfl ?_
  refine x_divisor hJ hin (by decide +kernel) dX0_divideSizes_14 ?_
  refine j_callV hJ (m2 _ hI1 (by rw [e5, hn]; omega)) rfl gX0_divideSizes_X0_moveUp rfl hdX0_moveUp rfl ⟨Nat.le_of_ble_eq_true rfl, Nat.le_of_ble_eq_true rfl⟩ (Nat.le_of_ble_eq_true rfl) (Nat.le_of_ble_eq_true rfl) rfl rfl dX0_divideSizes_17 (fun _ _ h => False.elim h) (fun r17 Z17 hp17 => ?_)
  obtain ⟨rfl, d0, rfl, hd0, vd⟩ := hp17
  refine j_aload_n hJ dX0_divideSizes_20 rfl ?_
  refine x_result hJ hin (by decide +kernel) dX0_divideSizes_21 ?_
  refine j_iconst hJ dX0_divideSizes_24 ?_
  refine x_fill hJ (j := 2) (N := 513) (by decide) rfl gX0_divideSizes_J7_fill_53178 ⟨Nat.le_of_ble_eq_true rfl, Nat.le_of_ble_eq_true rfl⟩ (Nat.le_of_ble_eq_true rfl) (Nat.le_of_ble_eq_true rfl) dX0_divideSizes_25 ?_
  exact j_re hJ (start L0 d0 hL0 hd0 vL vd) ⟨rfl, rfl, rfl, trivial⟩
end X9
