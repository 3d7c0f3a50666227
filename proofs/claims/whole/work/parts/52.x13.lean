def RI (t m : Nat) (N : Int) (h d : Nat → Int) (R : Int) : Prop := 0 ≤ R ∧ dgs 4294967296 514 h ∧ dgs 4294967296 513 d ∧ vs 4294967296 h 514 = N - R * R * 4294967296 ^ (2 * t) ∧ vs 4294967296 h 514 < (2 * R + 1) * 4294967296 ^ (2 * t) ∧ vs 4294967296 (fun i => d (t + i)) (m + 1) = 2 * R ∧ 2147483648 * 4294967296 ^ m ≤ 2 * R
theorem RI_split {p m : Nat} {N R : Int} {h d : Nat → Int} (H : RI (p + 1) m N h d R) (hm : p + m + 2 ≤ 257) : vs 4294967296 h 514 = vs 4294967296 h (2 * p) + 4294967296 ^ (2 * p) * vs 4294967296 (fun i => h (2 * p + i)) (m + 3) ∧ (∀ i, 2 * p + (m + 2) < i → i < 514 → h i = 0) := by
  obtain ⟨R0, hh, hd, e1, e2, e3, e4⟩ := H
  have t1 := vs_lt (B := 4294967296) (by decide) (show dgs 4294967296 (m + 1) (fun i => d (p + 1 + i)) from fun i hi => hd (p + 1 + i) (by omega))
  rw [e3] at t1
  have hp := pw_pos (B := 4294967296) (by decide) (2 * (p + 1))
  have e5 : vs 4294967296 h 514 < 4294967296 ^ (2 * p + (m + 3)) := by
    refine Int.lt_of_lt_of_le e2 ?_
    rw [show 2 * p + (m + 3) = (m + 1) + 2 * (p + 1) by omega, Int.pow_add]
    exact Int.mul_le_mul_of_nonneg_right (by omega) (Int.le_of_lt hp)
  have lz := low_zero hh e5
  refine ⟨?_, fun i i1 i2 => lz i (by omega) i2⟩
  rw [← vs_add]
  exact vs_top (by omega) lz
theorem RI_pre {p m : Nat} {N R : Int} {h d : Nat → Int} (H : RI (p + 1) m N h d R) (hm : p + m + 2 ≤ 257) : 2147483648 ≤ d (p + 1 + m) ∧ vs 4294967296 (fun i => h (2 * p + i)) (m + 3) < (2 * R + 1) * (4294967296 * 4294967296) := by
  have sp := (RI_split H hm).1
  obtain ⟨R0, hh, hd, e1, e2, e3, e4⟩ := H
  constructor
  · have q0 := vs_lt (B := 4294967296) (by decide) (show dgs 4294967296 m (fun i => d (p + 1 + i)) from fun i hi => hd (p + 1 + i) (by omega))
    have q1 : vs 4294967296 (fun i => d (p + 1 + i)) (m + 1) = vs 4294967296 (fun i => d (p + 1 + i)) m + d (p + 1 + m) * 4294967296 ^ m := vs_s _ _ _
    have hpm := pw_pos (B := 4294967296) (by decide) m
    rcases Int.lt_or_le (d (p + 1 + m)) 2147483648 with c | c
    · have := Int.mul_le_mul_of_nonneg_right (show d (p + 1 + m) + 1 ≤ 2147483648 from c) (Int.le_of_lt hpm)
      rw [Int.add_mul, Int.one_mul] at this
      omega
    · exact c
  · have l0 := vs_nonneg (B := 4294967296) (by decide) (dgs_mono hh (show 2 * p ≤ 514 by omega))
    have hp := pw_pos (B := 4294967296) (by decide) (2 * p)
    have e6 : 4294967296 ^ (2 * (p + 1)) = (4294967296 * 4294967296) * (4294967296 : Int) ^ (2 * p) := by rw [show 2 * (p + 1) = 2 + 2 * p by omega, Int.pow_add]; rfl
    rw [e6, ← Int.mul_assoc] at e2
    refine Int.lt_of_mul_lt_mul_right ?_ (Int.le_of_lt hp)
    rw [Int.mul_comm (4294967296 ^ (2 * p))] at sp
    omega
theorem ri_alg {N R K Y W W' T T' lo d : Int} (h1 : T = N - R * R * (4294967296 * 4294967296 * K)) (h2 : T = lo + K * W) (h3 : T' = lo + K * W') (h4 : W' = W - d * (2 * R * 4294967296 + d)) : T' = N - (R * 4294967296 + d) * (R * 4294967296 + d) * K := by
  subst h4; subst h3
  have : N = lo + K * W + R * R * (4294967296 * 4294967296 * K) := by omega
  subst this
  grind
theorem RI_post {p m : Nat} {N R c : Int} {h d h' d' : Nat → Int} (H : RI (p + 1) m N h d R) (hm : p + m + 2 ≤ 257) (hh' : dgs 4294967296 514 h') (hd' : dgs 4294967296 513 d') (ho : ∀ i, i < 514 → (i < 2 * p ∨ 2 * p + (m + 2) < i) → h' i = h i) (c0 : 0 ≤ c)
    (hw : vs 4294967296 (fun i => h' (2 * p + i)) (m + 3) = vs 4294967296 (fun i => h (2 * p + i)) (m + 3) - c * (2 * R * 4294967296 + c)) (hlt : vs 4294967296 (fun i => h' (2 * p + i)) (m + 3) < 2 * R * 4294967296 + 2 * c + 1) (hdv : vs 4294967296 (fun i => d' (p + i)) (m + 2) = 2 * (R * 4294967296 + c)) : RI p (m + 1) N h' d' (R * 4294967296 + c) := by
  obtain ⟨sp, hz⟩ := RI_split H hm
  obtain ⟨R0, hh, hd, e1, e2, e3, e4⟩ := H
  have lz' : ∀ i, 2 * p + (m + 3) ≤ i → i < 514 → h' i = 0 := fun i i1 i2 => by rw [ho i i2 (by omega)]; exact hz i (by omega) i2
  have sp' : vs 4294967296 h' 514 = vs 4294967296 h (2 * p) + 4294967296 ^ (2 * p) * vs 4294967296 (fun i => h' (2 * p + i)) (m + 3) := by
    rw [← vs_congr (f := h') (g := h) (fun i hi => ho i (by omega) (Or.inl hi)), ← vs_add]
    exact vs_top (by omega) lz'
  have e6 : 4294967296 ^ (2 * (p + 1)) = (4294967296 * 4294967296) * (4294967296 : Int) ^ (2 * p) := by rw [show 2 * (p + 1) = 2 + 2 * p by omega, Int.pow_add]; rfl
  have l1 := vs_lt (B := 4294967296) (by decide) (dgs_mono hh (show 2 * p ≤ 514 by omega))
  have hp := pw_pos (B := 4294967296) (by decide) (2 * p)
  rw [e6] at e1
  refine ⟨by omega, hh', hd', ri_alg (W := vs 4294967296 (fun i => h (2 * p + i)) (m + 3)) (W' := vs 4294967296 (fun i => h' (2 * p + i)) (m + 3)) (Y := 0) e1 sp sp' hw, ?_, hdv, ?_⟩
  · have := Int.mul_le_mul_of_nonneg_right (show vs 4294967296 (fun i => h' (2 * p + i)) (m + 3) + 1 ≤ 2 * (R * 4294967296 + c) + 1 by omega) (Int.le_of_lt hp)
    rw [Int.add_mul, Int.one_mul] at this
    rw [Int.mul_comm (4294967296 ^ (2 * p))] at sp'
    omega
  · rw [pw_s]; omega
theorem RI_init {n : Nat} {N P r : Int} {L e : Nat → Int} (hn : n ≤ 256) (hL : dgs 4294967296 514 L) (he : dgs 4294967296 513 e) (hv : vs 4294967296 L 514 = N) (hlo : 1152921504606846976 * 4294967296 ^ (2 * n) ≤ N) (hPe : L (2 * n + 1) * 4294967296 + L (2 * n) = P) (hN : N = vs 4294967296 L (2 * n) + P * 4294967296 ^ (2 * n)) (r0 : 0 ≤ r) (r1 : r < 2147483648) (r2 : r * r ≤ P) (r3 : P < (r + 1) * (r + 1)) : RI n 0 N (fset (fset L (2 * n + 1) 0) (2 * n) (P - r * r)) (fset e n (2 * r)) r := by
  have l0 := vs_nonneg (B := 4294967296) (by decide) (dgs_mono hL (show 2 * n ≤ 514 by omega))
  have l1 := vs_lt (B := 4294967296) (by decide) (dgs_mono hL (show 2 * n ≤ 514 by omega))
  have hp := pw_pos (B := 4294967296) (by decide) (2 * n)
  have e5 : (r + 1) * (r + 1) = r * r + 2 * r + 1 := by grind
  have hvv : vs 4294967296 (fset (fset L (2 * n + 1) 0) (2 * n) (P - r * r)) 514 = N - r * r * 4294967296 ^ (2 * n) := by
    rw [vs_upd _ (by omega), vs_upd _ (by omega), fset_ne (by omega), hv, pw_s, ← hPe]
    generalize (4294967296 : Int) ^ (2 * n) = K
    grind
  refine ⟨r0, dgs_upd (dgs_upd hL ⟨by decide, by decide⟩) ⟨by omega, by omega⟩, dgs_upd he ⟨by omega, by omega⟩, hvv, ?_, ?_, ?_⟩
  · rw [hvv, hN]
    have := Int.mul_le_mul_of_nonneg_right (show P ≤ r * r + 2 * r by omega) (Int.le_of_lt hp)
    rw [Int.add_mul] at this
    rw [Int.add_mul, Int.one_mul]
    omega
  · rw [show (0 + 1 : Nat) = 1 from rfl, vs_1]
    show fset e n (2 * r) (n + 0) + _ = _
    rw [Nat.add_zero, fset_eq]
    show 2 * r + 4294967296 * 0 = _
    omega
  · rw [Int.pow_zero]
    rcases Int.lt_or_le r 1073741824 with c | c
    · exfalso
      have q := Int.mul_le_mul (show r + 1 ≤ 1073741824 from c) (show r + 1 ≤ 1073741824 from c) (by omega) (by omega)
      have q2 := Int.mul_le_mul_of_nonneg_right (show P + 1 ≤ 1152921504606846976 by omega) (Int.le_of_lt hp)
      rw [Int.add_mul, Int.one_mul] at q2
      omega
    · omega
theorem rt_fin {A R : Int} {up : Nat} (R0 : 0 ≤ R) (h1 : R * R ≤ A * 2 ^ (2 * up)) (h2 : A * 2 ^ (2 * up) < (R + 1) * (R + 1)) : 2 * R / 2 ^ (up + 1) = rt A := by
  have hp := pw_pos (B := 2) (by decide) up
  have e1 : 2 * R / 2 ^ (up + 1) = R / 2 ^ up := by rw [pw_s, Int.mul_comm 2 R, Int.mul_ediv_mul_of_pos_left _ _ (by decide)]
  have e2 : (2 : Int) ^ (2 * up) = 2 ^ up * 2 ^ up := by rw [← Int.pow_add]; congr 1; omega
  rw [e1]
  rw [e2] at h1 h2
  have q0 : 0 ≤ R / 2 ^ up := Int.ediv_nonneg R0 (Int.le_of_lt hp)
  have q1 : R / 2 ^ up * 2 ^ up ≤ R := Int.ediv_mul_le R (Int.ne_of_gt hp)
  have q2 : R < (R / 2 ^ up + 1) * 2 ^ up := Int.lt_ediv_add_one_mul_self R hp
  generalize R / 2 ^ up = q at q0 q1 q2
  generalize (2 : Int) ^ up = U at *
  have hUU : 0 < U * U := Int.mul_pos hp hp
  refine (rt_eq ⟨q0, ?_, ?_⟩).symm
  · refine Int.le_of_mul_le_mul_right ?_ hUU
    have := Int.mul_le_mul q1 q1 (Int.mul_nonneg q0 (Int.le_of_lt hp)) R0
    have e : q * q * (U * U) = q * U * (q * U) := by grind
    omega
  · refine Int.lt_of_mul_lt_mul_right ?_ (Int.le_of_lt hUU)
    have := Int.mul_le_mul (show R + 1 ≤ (q + 1) * U from q2) (show R + 1 ≤ (q + 1) * U from q2) (by omega) (by omega)
    have e : (q + 1) * (q + 1) * (U * U) = (q + 1) * U * ((q + 1) * U) := by grind
    omega
section X13
variable (l : Launch) (D : va_G) (cI cO : ClassId) (a : Nat → Nat) (Z : ZZ)
set_option maxRecDepth 20000 in
theorem kX0_takeRootOfSize (g : Nat → Int) (hI : XI Z g) (r : Int) (h1 : 0 ≤ r ∧ r < 12) (hne : g r.toNat ≠ 0) : Ct l D (tX cI cO) (wX cI cO a) yX0_takeRootOfSize wsX0_takeRootOfSize 3 0 82 [.ref (a 0), .int (iZ r)] Z (fun v Z' => v = none ∧ ∃ h d f, Z' = zrw (st5 Z h d) 2 513 f ∧ dgs 4294967296 514 h ∧ dgs 4294967296 513 d ∧ dgs 4294967296 513 f ∧ f 512 = 0 ∧ vs 4294967296 f 513 = rt ((g r.toNat).natAbs : Int)) nX := by
  refine Ct.of (cc := cX0_takeRootOfSize) (maxL := 6) (ret := none) rfl (by decide) rfl (Nat.le_of_ble_eq_true rfl) (fun J hJ => ?_)
  have hin : ∀ w ∈ u_ws RX0 TX0 6, w ∈ wsX0_takeRootOfSize := by decide +kernel
  have hln := lenr_le (Z (r.toNat + 5)) 512
  have hA : (1 : Int) ≤ ((g r.toNat).natAbs : Int) := by omega
  have m1 := fun (up : Nat) (hup : up < 64) => kX0_moveUp l D cI cO a Z g hI r up 3 514 h1 hup (Or.inl ⟨rfl, rfl⟩) (by omega)
  have m0 := kX0_bitsOf l D cI cO a Z g hI r h1
  generalize ((g r.toNat).natAbs : Int) = A at hA hJ m1 m0
  have fin : ∀ (n up : Nat), n ≤ 256 → up ≤ 31 → ∀ (h d : Nat → Int) (R s : Int), -5 < s → s < 0 → RI 0 n (A * 2 ^ (2 * up)) h d R → J (st5 Z h d) 0 49 [(0, .ref (a 0)), (3, .int (iZ ((n + 1 : Nat) : Int))), (4, .int (iZ (up : Int))), (5, .int (iZ s))] [] := by
    intro n up hn hup h d R s hs0 hs1 ⟨R0, hh, hd, e1, e2, e3, e4⟩
    have z4 : dgs 4294967296 513 (st5 Z h d 4) := fun i hi => by rw [st5_4 hi]; exact hd i hi
    have dv : vs 4294967296 (st5 Z h d 4) (n + 1) = 2 * R := by rw [← e3]; exact vs_congr (fun i hi => by rw [st5_4 (by omega), Nat.zero_add])
    have hrt : 2 * R / 2 ^ (up + 1) = rt A := by
      have hnn := vs_nonneg (B := 4294967296) (by decide) hh
      have e : (R + 1) * (R + 1) = R * R + 2 * R + 1 := by grind
      rw [Nat.mul_zero, Int.pow_zero, Int.mul_one] at e1 e2
      exact rt_fin R0 (by omega) (by omega)
    refine j_iload hJ dX0_takeRootOfSize_49 rfl ?_
    refine j_if_lt (tgt := 67) hJ (by decide) ⟨by omega, by omega⟩ dX0_takeRootOfSize_51 (fun h51 => ?_) (fun h51 => ?_)
    · refine j_aload_n hJ dX0_takeRootOfSize_67 rfl ?_
      refine j_aload_n hJ dX0_takeRootOfSize_68 rfl ?_
      refine x_divisor hJ hin (by decide +kernel) dX0_takeRootOfSize_69 ?_
      refine j_iload_n hJ dX0_takeRootOfSize_72 rfl ?_
      refine j_iload hJ dX0_takeRootOfSize_73 rfl ?_
      refine j_iconst hJ dX0_takeRootOfSize_75 ?_
      refine j_iadd hJ dX0_takeRootOfSize_76 ?_
      rw [show ((up : Nat) : Int) + 1 = ((up + 1 : Nat) : Int) by omega]
      refine j_callV hJ (kX0_moveDown l D cI cO a _ (n + 1) (up + 1) 4 513 (by omega) (by omega) (Or.inr ⟨rfl, rfl⟩) z4) rfl gX0_takeRootOfSize_X0_moveDown rfl hdX0_moveDown rfl ⟨Nat.le_of_ble_eq_true rfl, Nat.le_of_ble_eq_true rfl⟩ (Nat.le_of_ble_eq_true rfl) (Nat.le_of_ble_eq_true rfl) rfl rfl dX0_takeRootOfSize_77 (fun _ _ h => False.elim h) (fun r77 Z77 hp77 => ?_)
      obtain ⟨rfl, f, rfl, hf, hf0, hfv⟩ := hp77
      rw [dv, hrt] at hfv
      exact j_vret hJ (Nat.le_of_ble_eq_true rfl) (⟨rfl, h, d, f, rfl, hh, hd, hf, hf0, hfv⟩) dX0_takeRootOfSize_80
    · omega
  have loop : ∀ (n up : Nat), n ≤ 256 → up ≤ 31 → ∀ (t m : Nat) (h d : Nat → Int) (R s : Int), t + m = n → s = (t : Int) - 1 → RI t m (A * 2 ^ (2 * up)) h d R → J (st5 Z h d) 0 49 [(0, .ref (a 0)), (3, .int (iZ ((n + 1 : Nat) : Int))), (4, .int (iZ (up : Int))), (5, .int (iZ s))] [] := by
    intro n up hn hup t
    induction t with
    | zero =>
      intro m h d R s ht hs H
      obtain rfl : m = n := by omega
      exact fin m up hn hup h d R s (by omega) (by omega) H
    | succ p ih =>
      intro m h d R s ht hs H
      obtain rfl : s = (p : Int) := by omega
      have hpre := RI_pre H (by omega)
      have hn2 : ((n + 1 : Nat) : Int) = ((p + m + 2 : Nat) : Int) := by omega
      have w3 : vs 4294967296 (fun i => st5 Z h d 3 (2 * p + i)) (m + 3) = vs 4294967296 (fun i => h (2 * p + i)) (m + 3) := vs_congr (fun i hi => st5_3 (by omega))
      refine j_iload hJ dX0_takeRootOfSize_49 rfl ?_
      refine j_if_lt (tgt := 67) hJ (by decide) ⟨by omega, by omega⟩ dX0_takeRootOfSize_51 (fun h51 => ?_) (fun h51 => ?_)
      · omega
      · refine j_aload_n hJ dX0_takeRootOfSize_54 rfl ?_
        refine j_iload hJ dX0_takeRootOfSize_55 rfl ?_
        refine j_iload_n hJ dX0_takeRootOfSize_57 rfl ?_
        rw [hn2]
        refine j_callV hJ (kX0_takeRootDigit l D cI cO a _ p m R (by omega) (fun i hi => by rw [st5_3 hi]; exact H.2.1 i hi) (fun i hi => by rw [st5_4 hi]; exact H.2.2.1 i hi) (by rw [← H.2.2.2.2.2.1]; exact vs_congr (fun i hi => st5_4 (by omega))) (by rw [st5_4 (by omega)]; exact hpre.1) (by rw [w3]; exact hpre.2)) rfl gX0_takeRootOfSize_X0_takeRootDigit rfl hdX0_takeRootDigit rfl ⟨Nat.le_of_ble_eq_true rfl, Nat.le_of_ble_eq_true rfl⟩ (Nat.le_of_ble_eq_true rfl) (Nat.le_of_ble_eq_true rfl) rfl rfl dX0_takeRootOfSize_58 (fun _ _ h => False.elim h) (fun r58 Z58 hp58 => ?_)
        obtain ⟨rfl, h9, d9, c, rfl, hh9, hd9, ho9, hp9, c0, c1, hw9, hl9, hv9⟩ := hp58
        rw [st5_st5]
        rw [w3] at hw9
        have H9 := RI_post H (by omega) hh9 hd9 (fun i i1 i2 => by rw [ho9 i i1 i2, st5_3 i1]) c0 hw9 hl9 hv9
        refine j_iinc hJ (by decide) dX0_takeRootOfSize_61 rfl ?_
        refine j_goto (tgt := 49) hJ (by decide) dX0_takeRootOfSize_64 ?_
        rw [← hn2]
        exact j_re hJ (ih (m + 1) h9 d9 (R * 4294967296 + c) _ (by omega) (by omega) H9) ⟨rfl, rfl, rfl, rfl, trivial⟩
  refine j_aload_n hJ dX0_takeRootOfSize_0 rfl ?_
  refine j_iload_n hJ dX0_takeRootOfSize_1 rfl ?_
  refine j_callV hJ m0 rfl gX0_takeRootOfSize_X0_bitsOf rfl hdX0_bitsOf rfl ⟨Nat.le_of_ble_eq_true rfl, Nat.le_of_ble_eq_true rfl⟩ (Nat.le_of_ble_eq_true rfl) (Nat.le_of_ble_eq_true rfl) rfl rfl dX0_takeRootOfSize_2 (fun _ _ h => False.elim h) (fun r2 Z2 hp2 => ?_)
  obtain ⟨⟨z, rfl, hz, hz2, hz3, hz4⟩, rfl⟩ := hp2
  have hz1 : 1 ≤ z := (by rcases Nat.eq_zero_or_pos z with q | q; (rw [q] at hz; have := hz.1; rw [Int.pow_zero] at this; omega); exact q)
  obtain ⟨n, hn⟩ : ∃ n : Nat, ((z : Int) + 65) / 64 = ((n + 1 : Nat) : Int) := ⟨(z + 65) / 64 - 1, by omega⟩
  have hn9 : n ≤ 256 := (by omega)
  obtain ⟨up, hu⟩ : ∃ up : Nat, (((n + 1 : Nat) : Int) * 64 - 2 - (z : Int)) / 2 = (up : Int) := ⟨((n + 1) * 64 - 2 - z) / 2, by omega⟩
  have hup : up ≤ 31 := (by omega)
  refine j_istore_n hJ (by decide) dX0_takeRootOfSize_5 ?_
  refine j_iload_n hJ dX0_takeRootOfSize_6 rfl ?_
  refine j_bipush hJ (by decide) dX0_takeRootOfSize_7 ?_
  refine j_iadd hJ dX0_takeRootOfSize_9 ?_
  refine j_bipush hJ (by decide) dX0_takeRootOfSize_10 ?_
  refine j_idiv hJ (by omega) ⟨by omega, by omega⟩ ⟨by omega, by omega⟩ (by omega) dX0_takeRootOfSize_12 ?_
  rw [hn]
  refine j_istore_n hJ (by decide) dX0_takeRootOfSize_13 ?_
  refine j_iload_n hJ dX0_takeRootOfSize_14 rfl ?_
  refine j_bipush hJ (by decide) dX0_takeRootOfSize_15 ?_
  refine j_imul hJ dX0_takeRootOfSize_17 ?_
  refine j_iconst hJ dX0_takeRootOfSize_18 ?_
  refine j_isub hJ dX0_takeRootOfSize_19 ?_
  refine j_iload_n hJ dX0_takeRootOfSize_20 rfl ?_
  refine j_isub hJ dX0_takeRootOfSize_21 ?_
  refine j_iconst hJ dX0_takeRootOfSize_22 ?_
  refine j_idiv hJ (by omega) ⟨by omega, by omega⟩ ⟨by omega, by omega⟩ (by omega) dX0_takeRootOfSize_23 ?_
  rw [hu]
  refine j_istore hJ (by decide) dX0_takeRootOfSize_24 ?_
  refine j_aload_n hJ dX0_takeRootOfSize_26 rfl ?_
  refine j_iload_n hJ dX0_takeRootOfSize_27 rfl ?_
  refine j_iconst hJ dX0_takeRootOfSize_28 ?_
  refine j_iload hJ dX0_takeRootOfSize_29 rfl ?_
  refine j_imul hJ dX0_takeRootOfSize_31 ?_
  refine j_aload_n hJ dX0_takeRootOfSize_32 rfl ?_
  refine x_left hJ hin (by decide +kernel) dX0_takeRootOfSize_33 ?_
  rw [show 2 * ((up : Nat) : Int) = ((2 * up : Nat) : Int) by omega]
  refine j_callV hJ (m1 (2 * up) (by omega)) rfl gX0_takeRootOfSize_X0_moveUp rfl hdX0_moveUp rfl ⟨Nat.le_of_ble_eq_true rfl, Nat.le_of_ble_eq_true rfl⟩ (Nat.le_of_ble_eq_true rfl) (Nat.le_of_ble_eq_true rfl) rfl rfl dX0_takeRootOfSize_36 (fun _ _ h => False.elim h) (fun r36 Z36 hp36 => ?_)
  obtain ⟨rfl, L, rfl, hL, hLv⟩ := hp36
  refine j_aload_n hJ dX0_takeRootOfSize_39 rfl ?_
  refine j_iload_n hJ dX0_takeRootOfSize_40 rfl ?_
  have pu := pw_pos (B := 2) (by decide) (2 * up)
  have hlo : 1152921504606846976 * 4294967296 ^ (2 * n) ≤ A * 2 ^ (2 * up) := (by have q := Int.mul_le_mul_of_nonneg_right (hz.2.resolve_left (by omega)) (Int.le_of_lt pu); rw [← Int.pow_add] at q; have q2 := pw_mono (B := 2) (by decide) (show 60 + 32 * (2 * n) ≤ z - 1 + 2 * up by omega); rw [Int.pow_add, ← pw_mul] at q2; exact Int.le_trans q2 q)
  have hhi : A * 2 ^ (2 * up) < 4611686018427387904 * 4294967296 ^ (2 * n) := (by have q := Int.mul_lt_mul_of_pos_right hz.1 pu; rw [← Int.pow_add] at q; have q2 := pw_mono (B := 2) (by decide) (show z + 2 * up ≤ 62 + 32 * (2 * n) by omega); rw [Int.pow_add _ 62, ← pw_mul] at q2; exact Int.lt_of_lt_of_le q q2)
  have pn := pw_pos (B := 4294967296) (by decide) (2 * n)
  have hLz := low_zero hL (m := 2 * n + 2) (by rw [hLv, pw_s, pw_s]; omega)
  have hN : A * 2 ^ (2 * up) = vs 4294967296 L (2 * n) + (L (2 * n + 1) * 4294967296 + L (2 * n)) * 4294967296 ^ (2 * n) := (by rw [← hLv, vs_top (m := 2 * n + 2) (by omega) hLz, vs_s 4294967296 L (2 * n + 1), vs_s 4294967296 L (2 * n), pw_s]; grind)
  have l0 := vs_nonneg (B := 4294967296) (by decide) (dgs_mono hL (show 2 * n ≤ 514 by omega))
  have hP : L (2 * n + 1) * 4294967296 + L (2 * n) < 4611686018427387904 := (by rcases Int.lt_or_le (L (2 * n + 1) * 4294967296 + L (2 * n)) 4611686018427387904 with c | c; exact c; have := Int.mul_le_mul_of_nonneg_right c (Int.le_of_lt pn); omega)
  have z9 : ∀ i, i < 514 → zrw Z 3 514 L 3 i = L i := fun i hi => zrw_in hi
  have z91 := z9 (2 * n + 1) (by omega)
  have z90 := z9 (2 * n) (by omega)
  refine j_callV hJ (kX0_takeFirstRootDigit l D cI cO a _ (n + 1) ⟨by omega, by omega⟩ (fun i hi => by rw [z9 i hi]; exact hL i hi) (by rw [show 2 * (n + 1) - 1 = 2 * n + 1 by omega, show 2 * (n + 1) - 2 = 2 * n by omega, z91, z90]; exact hP)) rfl gX0_takeRootOfSize_X0_takeFirstRootDigit rfl hdX0_takeFirstRootDigit rfl ⟨Nat.le_of_ble_eq_true rfl, Nat.le_of_ble_eq_true rfl⟩ (Nat.le_of_ble_eq_true rfl) (Nat.le_of_ble_eq_true rfl) rfl rfl dX0_takeRootOfSize_41 (fun _ _ h => False.elim h) (fun r41 Z41 hp41 => ?_)
  rw [show 2 * (n + 1) - 1 = 2 * n + 1 by omega, show 2 * (n + 1) - 2 = 2 * n by omega, z91, z90, show n + 1 - 1 = n by omega] at hp41
  obtain ⟨rfl, q, q0, q1, q2, q3, rfl⟩ := hp41
  refine j_iload_n hJ dX0_takeRootOfSize_44 rfl ?_
  refine j_iconst hJ dX0_takeRootOfSize_45 ?_
  refine j_isub hJ dX0_takeRootOfSize_46 ?_
  refine j_istore hJ (by decide) dX0_takeRootOfSize_47 ?_
  have H := RI_init (e := zrw Z 3 514 L 4) hn9 (show dgs 4294967296 514 (zrw Z 3 514 L 3) from fun i hi => by rw [z9 i hi]; exact hL i hi) (by rw [zrw_off (by decide)]; exact hI.1.2.2) (by rw [← hLv]; exact vs_congr z9) hlo (by rw [z91, z90]) (by rw [vs_congr (f := zrw Z 3 514 L 3) (g := L) (fun i hi => z9 i (by omega))]; exact hN) q0 q1 q2 q3
  have hst : ∀ x y, st5 (zrw Z 3 514 L) x y = st5 Z x y := (fun x y => by unfold st5; rw [zrw_zrw (Nat.le_refl _)])
  rw [hst]
  exact j_re hJ (loop n up hn9 hup n 0 _ _ q _ (by omega) (by omega) H) ⟨rfl, rfl, rfl, rfl, trivial⟩
theorem oRoot_n {g : Nat → Int} {r a : Int} (h : ¬ (isRg r ∧ isRg a)) : oRoot g r a = (1, g) := if_neg h
theorem oRoot_2 {g : Nat → Int} {r a : Int} (h : isRg r ∧ isRg a) (h2 : g a.toNat < 0) : oRoot g r a = (2, g) := by unfold oRoot; rw [if_pos h, if_pos h2]
theorem oRoot_y {g : Nat → Int} {r a : Int} (h : isRg r ∧ isRg a) (h2 : ¬ g a.toNat < 0) : oRoot g r a = (0, gset g r.toNat (rt (g a.toNat))) := by unfold oRoot; rw [if_pos h, if_neg h2]
theorem rt_nn {x : Int} (hx : 0 ≤ x) : 0 ≤ rt x := by
  obtain ⟨z, h⟩ := rt_ex x hx
  rw [rt_eq h]; exact h.1
theorem st5_XI {Z : ZZ} {g : Nat → Int} (hI : XI Z g) {h d : Nat → Int} (hh : dgs 4294967296 514 h) (hd : dgs 4294967296 513 d) : XI (st5 Z h d) g :=
  hI.scr (fun j _ h3 h4 => st5_off h3 h4) (by rw [st5_off (by decide) (by decide)]; exact hI.1.1) (fun i hi => by rw [st5_3 hi]; exact hh i hi) (fun i hi => by rw [st5_4 hi]; exact hd i hi)
set_option maxRecDepth 20000 in
theorem kX0_root (hl0 : l.stackTraces = false) (g : Nat → Int) (hI : XI Z g) (r i : Int) (h0 : i32 r) (h1 : i32 i) : Ct l D (tX cI cO) (wX cI cO a) yX0_root wsX0_root 7 3 120 [.ref (a 0), .int (iZ r), .int (iZ i)] Z (fun v Z' => v = none ∧ (oRoot g r i).1 = 0 ∧ XI Z' (oRoot g r i).2) (pT g (oRoot g r i).1 eA) := by
  refine Ct.of (cc := cX0_root) (maxL := 3) (ret := none) rfl (by decide) rfl (Nat.le_of_ble_eq_true rfl) (fun J hJ => ?_)
  have hin : ∀ w ∈ u_ws RX0 TX0 6, w ∈ wsX0_root := by decide +kernel
  have fin : isRg r → isRg i → 0 ≤ g i.toNat → ∀ (Z9 : ZZ) (f : Nat → Int), XI Z9 g → dgs 4294967296 513 f → f 512 = 0 → vs 4294967296 f 513 = rt (g i.toNat) → J (zrw Z9 2 513 f) 2 52 [(0, .ref (a 0)), (1, .int (iZ r)), (2, .int (iZ i))] [] := by
    intro hr1 hr5 hg Z9 f hX hf hf0 hfv
    have hn := rt_nn hg
    have s3 := ((res_XI hX hf).2 i.toNat (by omega)).2.2.1
    have hz0 : rt (g i.toNat) ≠ 0 → (g i.toNat).sign = (rt (g i.toNat)).sign := fun hne => by
      have c1 := sg_cases (g i.toNat)
      have c2 := sg_cases (rt (g i.toNat))
      have : g i.toNat ≠ 0 := fun e => hne (by rw [e]; exact rt_eq ⟨by decide, by decide, by decide⟩)
      omega
    have kx := keep_XI hX hf hf0 hr1 (s := (g i.toNat).sign) (z := rt (g i.toNat)) (by rw [hfv]; omega) hz0
    have hy := oRoot_y (g := g) ⟨hr1, hr5⟩ (show ¬ g i.toNat < 0 by omega)
    rw [hy] at hJ
    refine j_aload_n hJ dX0_root_52 rfl ?_
    refine j_iload_n hJ dX0_root_53 rfl ?_
    refine j_aload_n hJ dX0_root_54 rfl ?_
    refine x_signs hJ hin (by decide +kernel) dX0_root_55 ?_
    refine j_iload_n hJ dX0_root_58 rfl ?_
    refine x_ald_s hJ ⟨by omega, by omega⟩ dX0_root_59 ?_
    rw [s3]
    refine j_callV hJ (kX0_keepResult l D cI cO a _ _ _ hr1 (res_XI hX hf).1.1) rfl gX0_root_X0_keepResult rfl hdX0_keepResult rfl ⟨Nat.le_of_ble_eq_true rfl, Nat.le_of_ble_eq_true rfl⟩ (Nat.le_of_ble_eq_true rfl) (Nat.le_of_ble_eq_true rfl) rfl rfl dX0_root_60 (fun _ _ h => False.elim h) (fun r60 Z60 hp60 => ?_)
    obtain ⟨rfl, rfl⟩ := hp60
    exact j_vret hJ (Nat.le_of_ble_eq_true rfl) (⟨rfl, rfl, kx.2⟩) dX0_root_63
  refine j_iload_n hJ dX0_root_0 rfl ?_
  refine j_callS hJ (kX0_checkRegister l D hl0 _ ⟨by omega, by omega⟩) rfl gX0_root_X0_checkRegister rfl hsX0_checkRegister rfl ⟨Nat.le_of_ble_eq_true rfl, Nat.le_of_ble_eq_true rfl⟩ (Nat.le_of_ble_eq_true rfl) (Nat.le_of_ble_eq_true rfl) dX0_root_1 (fun E h => ⟨hI, Or.inl ⟨by rw [oRoot_n (fun q => h.2 q.1)], h.1⟩⟩) (fun r1 hp1 => ?_)
  obtain ⟨rfl, hr1⟩ := hp1
  refine j_iload_n hJ dX0_root_4 rfl ?_
  refine j_callS hJ (kX0_checkRegister l D hl0 _ ⟨by omega, by omega⟩) rfl gX0_root_X0_checkRegister rfl hsX0_checkRegister rfl ⟨Nat.le_of_ble_eq_true rfl, Nat.le_of_ble_eq_true rfl⟩ (Nat.le_of_ble_eq_true rfl) (Nat.le_of_ble_eq_true rfl) dX0_root_5 (fun E h => ⟨hI, Or.inl ⟨by rw [oRoot_n (fun q => h.2 q.2)], h.1⟩⟩) (fun r5 hp5 => ?_)
  obtain ⟨rfl, hr5⟩ := hp5
  have s3 := (hI.2 i.toNat (by omega)).2.2.1
  have sc := sg_cases (g i.toNat)
  refine j_aload_n hJ dX0_root_8 rfl ?_
  refine x_signs hJ hin (by decide +kernel) dX0_root_9 ?_
  refine j_iload_n hJ dX0_root_12 rfl ?_
  refine x_ald_s hJ ⟨by omega, by omega⟩ dX0_root_13 ?_
  refine j_if_ge (tgt := 27) hJ (by decide) ⟨by omega, by omega⟩ dX0_root_14 (fun h14 => ?_) (fun h14 => ?_)
  · refine j_aload_n hJ dX0_root_27 rfl ?_
    refine x_signs hJ hin (by decide +kernel) dX0_root_28 ?_
    refine j_iload_n hJ dX0_root_31 rfl ?_
    refine x_ald_s hJ ⟨by omega, by omega⟩ dX0_root_32 ?_
    refine j_if_ne (tgt := 47) hJ (by decide) ⟨by omega, by omega⟩ dX0_root_33 (fun h33 => ?_) (fun h33 => ?_)
    · refine j_aload_n hJ dX0_root_47 rfl ?_
      refine j_iload_n hJ dX0_root_48 rfl ?_
      refine j_callV hJ (kX0_takeRootOfSize l D cI cO a Z g hI i hr5 (by omega)) rfl gX0_root_X0_takeRootOfSize rfl hdX0_takeRootOfSize rfl ⟨Nat.le_of_ble_eq_true rfl, Nat.le_of_ble_eq_true rfl⟩ (Nat.le_of_ble_eq_true rfl) (Nat.le_of_ble_eq_true rfl) rfl rfl dX0_root_49 (fun _ _ h => False.elim h) (fun r49 Z49 hp49 => ?_)
      obtain ⟨rfl, h, d, f, rfl, hh, hd, hf, hf0, hfv⟩ := hp49
      first | exact j_re hJ (fin hr1 hr5 (by omega) Z (fun _ => 0) hI (fun _ _ => ⟨Int.le_refl 0, (show (0 : Int) < 4294967296 by decide)⟩) rfl (by rw [show g i.toNat = 0 by omega, rt_eq (x := 0) (z := 0) ⟨by decide, by decide, by decide⟩]; exact vs_zero (fun _ _ => rfl))) ⟨rfl, rfl, rfl, trivial⟩ | exact j_re hJ (fin hr1 hr5 (by omega) _ f (st5_XI hI hh hd) hf hf0 (by rw [hfv]; congr 1; omega)) ⟨rfl, rfl, rfl, trivial⟩
    · refine j_aload_n hJ dX0_root_36 rfl ?_
      refine x_result hJ hin (by decide +kernel) dX0_root_37 ?_
      refine j_iconst hJ dX0_root_40 ?_
      refine x_fill hJ (j := 2) (N := 513) (by decide) rfl gX0_root_J7_fill_53178 ⟨Nat.le_of_ble_eq_true rfl, Nat.le_of_ble_eq_true rfl⟩ (Nat.le_of_ble_eq_true rfl) (Nat.le_of_ble_eq_true rfl) dX0_root_41 ?_
      refine j_goto (tgt := 52) hJ (by decide) dX0_root_44 ?_
      first | exact j_re hJ (fin hr1 hr5 (by omega) Z (fun _ => 0) hI (fun _ _ => ⟨Int.le_refl 0, (show (0 : Int) < 4294967296 by decide)⟩) rfl (by rw [show g i.toNat = 0 by omega, rt_eq (x := 0) (z := 0) ⟨by decide, by decide, by decide⟩]; exact vs_zero (fun _ _ => rfl))) ⟨rfl, rfl, rfl, trivial⟩ | exact j_re hJ (fin hr1 hr5 (by omega) _ f (st5_XI hI hh hd) hf hf0 (by rw [hfv]; congr 1; omega)) ⟨rfl, rfl, rfl, trivial⟩
  · exact x_throw_iae (text := "the root of a number below 0") hJ hl0 (by decide +kernel) (by decide +kernel) (by decide +kernel) (by decide +kernel) dX0_root_17 dX0_root_20 dX0_root_21 dX0_root_23 dX0_root_26 (Nat.le_of_ble_eq_true rfl) (Nat.le_of_ble_eq_true rfl) (Nat.le_of_ble_eq_true rfl) (⟨hI, Or.inr ⟨by rw [oRoot_2 ⟨hr1, hr5⟩ (by omega)], rfl⟩⟩)
end X13
