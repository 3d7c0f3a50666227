def XI (Z : ZZ) (g : Nat → Int) : Prop := (dgs 4294967296 513 (Z 2) ∧ dgs 4294967296 514 (Z 3) ∧ dgs 4294967296 513 (Z 4)) ∧ ∀ r, r < 12 → dgs 4294967296 512 (Z (r + 5)) ∧ vs 4294967296 (Z (r + 5)) 512 = ((g r).natAbs : Int) ∧ Z 1 r = (g r).sign ∧ Z 0 r = (lenr (Z (r + 5)) 512 : Int)
theorem LIM_X : LIM = 4294967296 ^ 512 := by
  show (65536 : Int) ^ 1024 = _
  rw [show (4294967296 : Int) = 65536 ^ 2 by decide, pw_mul]
theorem XI.lim {Z : ZZ} {g : Nat → Int} (h : XI Z g) {r : Nat} (hr : r < 12) : ((g r).natAbs : Int) < LIM := by
  rw [LIM_X, ← (h.2 r hr).2.1]
  exact vs_lt (by decide) (h.2 r hr).1
/-- the working rows may change -/
theorem XI.scr {Z Z' : ZZ} {g : Nat → Int} (h : XI Z g) (h1 : ∀ j, j ≠ 2 → j ≠ 3 → j ≠ 4 → Z' j = Z j) (d2 : dgs 4294967296 513 (Z' 2)) (d3 : dgs 4294967296 514 (Z' 3)) (d4 : dgs 4294967296 513 (Z' 4)) : XI Z' g := by
  refine ⟨⟨d2, d3, d4⟩, fun r hr => ?_⟩
  rw [h1 (r + 5) (by omega) (by omega) (by omega), h1 1 (by omega) (by omega) (by omega), h1 0 (by omega) (by omega) (by omega)]
  exact h.2 r hr
/-- what keepResult leaves -/
def kp (Z : ZZ) (r : Nat) (s : Int) : ZZ := zup (zup (zcp Z 2 0 (r + 5) 0 512) 0 r (lenr (Z 2) 512 : Int)) 1 r (if (lenr (Z 2) 512 : Int) = 0 then 0 else s)
theorem kp_row {Z : ZZ} {r i : Nat} {s : Int} (hi : i < 512) : kp Z r s (r + 5) i = Z 2 i := by
  unfold kp
  rw [zup_ne (by omega), zup_ne (by omega)]
  unfold zcp
  rw [if_pos ⟨rfl, by omega, by omega⟩]
  congr 1; omega
theorem kp_off {Z : ZZ} {r j : Nat} {s : Int} (h0 : j ≠ 0) (h1 : j ≠ 1) (h2 : j ≠ r + 5) : kp Z r s j = Z j := by
  unfold kp
  rw [zup_off _ 1 _ _ h1, zup_off _ 0 _ _ h0, zcp_off _ _ _ _ _ _ h2]
theorem kp_0 {Z : ZZ} {r : Nat} {s : Int} : kp Z r s 0 r = (lenr (Z 2) 512 : Int) := by unfold kp; rw [zup_ne (by omega), zup_eq]
theorem kp_0o {Z : ZZ} {r i : Nat} {s : Int} (h : i ≠ r) : kp Z r s 0 i = Z 0 i := by unfold kp; rw [zup_ne (by omega), zup_ne (by omega), zcp_off _ _ _ _ _ _ (by omega)]
theorem kp_1 {Z : ZZ} {r : Nat} {s : Int} : kp Z r s 1 r = (if (lenr (Z 2) 512 : Int) = 0 then 0 else s) := by unfold kp; rw [zup_eq]
theorem kp_1o {Z : ZZ} {r i : Nat} {s : Int} (h : i ≠ r) : kp Z r s 1 i = Z 1 i := by unfold kp; rw [zup_ne (by omega), zup_ne (by omega), zcp_off _ _ _ _ _ _ (by omega)]
theorem lenr_congr {f g : Nat → Int} : ∀ {n : Nat}, (∀ i, i < n → f i = g i) → lenr f n = lenr g n
  | 0, _ => rfl
  | n + 1, h => by rw [lenr_s, lenr_s, h n (Nat.lt_succ_self n), lenr_congr (fun i hi => h i (Nat.lt_succ_of_lt hi))]
theorem kp_XI {Z : ZZ} {g : Nat → Int} (h : XI Z g) {r : Nat} (hr : r < 12) {s z : Int} (hz : vs 4294967296 (Z 2) 512 = (z.natAbs : Int)) (hs : z ≠ 0 → s = z.sign) : XI (kp Z r s) (gset g r z) := by
  have d2 : dgs 4294967296 512 (Z 2) := dgs_mono h.1.1 (by omega)
  refine ⟨by rw [kp_off (by omega) (by omega) (by omega), kp_off (by omega) (by omega) (by omega), kp_off (by omega) (by omega) (by omega)]; exact h.1, fun i hi => ?_⟩
  by_cases q : i = r
  · subst q
    rw [gset_eq, kp_1, kp_0, vs_congr (g := Z 2) (fun k hk => kp_row hk), lenr_congr (g := Z 2) (fun k hk => kp_row hk)]
    refine ⟨fun k hk => by rw [kp_row hk]; exact d2 k hk, hz, ?_, rfl⟩
    have h0 := lenr_0iff (B := 4294967296) (by decide) d2
    by_cases e : lenr (Z 2) 512 = 0
    · rw [if_pos (by omega)]
      have : z = 0 := by have := h0.mp e; omega
      rw [this]; rfl
    · rw [if_neg (by omega)]
      refine hs (fun e2 => e (h0.mpr ?_))
      rw [hz, e2]; rfl
  · rw [gset_ne q, kp_off (j := i + 5) (by omega) (by omega) (by omega), kp_1o q, kp_0o q]
    exact h.2 i hi
/-- a word is 0 as an int just when it is 0 -/
theorem wd0 {w : Int} (hw : 0 ≤ w ∧ w < 4294967296) : (iZ w).toInt = 0 ↔ w = 0 := by
  rw [show (0 : Int) = (iZ 0).toInt by decide, Int32.toInt_inj]
  constructor
  · intro e
    have := iZ_u w
    rw [e] at this
    have e0 : ((iZ 0).toUInt32.toNat : Int) = 0 := by decide
    have e1 : (iZ 0).toInt = 0 := by decide
    omega
  · intro e; rw [e]; rfl
section X2
variable (l : Launch) (D : va_G) (cI cO : ClassId) (a : Nat → Nat) (Z : ZZ)
abbrev eI : String := "java/lang/IndexOutOfBoundsException"
abbrev eS : String := "java/lang/IllegalStateException"
abbrev eA : String := "java/lang/IllegalArgumentException"
set_option maxRecDepth 20000 in
theorem kX0_checkRegister (hl0 : l.stackTraces = false) (r : Int) (hr : i32 r) : Ct l D [] wE yX0_checkRegister wsX0_checkRegister 6 1 100 [.int (iZ r)] () (fun v _ => v = none ∧ 0 ≤ r ∧ r < 12) (fun E _ => E = eI ∧ ¬ isRg r) := by
  refine Ct.of (cc := cX0_checkRegister) (maxL := 1) (ret := none) rfl (by decide) rfl (Nat.le_of_ble_eq_true rfl) (fun J hJ => ?_)
  refine j_iload_n hJ dX0_checkRegister_0 rfl ?_
  refine j_if_lt (tgt := 10) hJ (by decide) ⟨by omega, by omega⟩ dX0_checkRegister_1 (fun h1 => ?_) (fun h1 => ?_)
  · exact x_throw_ioobe (text := "there is no such register") hJ hl0 (by decide +kernel) (by decide +kernel) (by decide +kernel) (by decide +kernel) dX0_checkRegister_10 dX0_checkRegister_13 dX0_checkRegister_14 dX0_checkRegister_16 dX0_checkRegister_19 (Nat.le_of_ble_eq_true rfl) (Nat.le_of_ble_eq_true rfl) (Nat.le_of_ble_eq_true rfl) (⟨rfl, by omega⟩)
  · refine j_iload_n hJ dX0_checkRegister_4 rfl ?_
    refine j_bipush hJ (by decide) dX0_checkRegister_5 ?_
    refine j_icmp_lt (tgt := 20) hJ (by decide) ⟨by omega, by omega⟩ ⟨by omega, by omega⟩ dX0_checkRegister_7 (fun h7 => ?_) (fun h7 => ?_)
    · exact j_vret hJ (Nat.le_of_ble_eq_true rfl) (⟨rfl, by omega, by omega⟩) dX0_checkRegister_20
    · exact x_throw_ioobe (text := "there is no such register") hJ hl0 (by decide +kernel) (by decide +kernel) (by decide +kernel) (by decide +kernel) dX0_checkRegister_10 dX0_checkRegister_13 dX0_checkRegister_14 dX0_checkRegister_16 dX0_checkRegister_19 (Nat.le_of_ble_eq_true rfl) (Nat.le_of_ble_eq_true rfl) (Nat.le_of_ble_eq_true rfl) (⟨rfl, by omega⟩)
set_option maxRecDepth 20000 in
theorem kX0_checkResultFits (hl0 : l.stackTraces = false) (hd : dgs 4294967296 513 (Z 2)) : Ct l D (tX cI cO) (wX cI cO a) yX0_checkResultFits wsX0_checkResultFits 6 1 100 [.ref (a 0)] Z (fun v Z' => v = none ∧ Z 2 512 = 0 ∧ Z = Z') (fun E Z' => E = eS ∧ Z 2 512 ≠ 0 ∧ Z = Z') := by
  refine Ct.of (cc := cX0_checkResultFits) (maxL := 1) (ret := none) rfl (by decide) rfl (Nat.le_of_ble_eq_true rfl) (fun J hJ => ?_)
  have hin : ∀ w ∈ u_ws RX0 TX0 6, w ∈ wsX0_checkResultFits := by decide +kernel
  have q := hd 512 (by omega)
  have key : J Z 0 8 [(0, .ref (a 0))] [.int (iZ (Z 2 512))] := by
    rw [← iZ_of (iZ (Z 2 512))]
    have hb : i32 (iZ (Z 2 512)).toInt := ⟨Int32.le_toInt _, Int32.toInt_lt _⟩
    have h0 := wd0 q
    generalize (iZ (Z 2 512)).toInt = y at hb h0
    refine j_if_eq (tgt := 21) hJ (by decide) ⟨by omega, by omega⟩ dX0_checkResultFits_8 (fun h8 => ?_) (fun h8 => ?_)
    · exact j_vret hJ (Nat.le_of_ble_eq_true rfl) (⟨rfl, by omega, rfl⟩) dX0_checkResultFits_21
    · exact x_throw_ise (text := "the number is too long") hJ hl0 (by decide +kernel) (by decide +kernel) (by decide +kernel) (by decide +kernel) dX0_checkResultFits_11 dX0_checkResultFits_14 dX0_checkResultFits_15 dX0_checkResultFits_17 dX0_checkResultFits_20 (Nat.le_of_ble_eq_true rfl) (Nat.le_of_ble_eq_true rfl) (Nat.le_of_ble_eq_true rfl) (⟨rfl, by omega, rfl⟩)
  refine j_aload_n hJ dX0_checkResultFits_0 rfl ?_
  refine x_result hJ hin (by decide +kernel) dX0_checkResultFits_1 ?_
  refine j_sipush hJ (by decide) dX0_checkResultFits_4 ?_
  refine x_ald_r hJ ⟨by omega, by omega⟩ dX0_checkResultFits_7 ?_
  exact j_re hJ key ⟨rfl, trivial⟩
set_option maxRecDepth 20000 in
theorem kX0_pairOf (hi lo : Int) (hlo : 0 ≤ lo ∧ lo < 4294967296) : Ct l D [] wE yX0_pairOf wsX0_pairOf 0 0 0 [.long (lZ hi), .int (iZ lo)] () (fun v _ => v = some (.long (lZ (hi * 4294967296 + lo)))) nX := by
  refine Ct.of (cc := cX0_pairOf) (maxL := 3) (ret := some .long) rfl (by decide) rfl (Nat.le_of_ble_eq_true rfl) (fun J hJ => ?_)
  have hlow : Jvm.Cond.constantLong RX0 108 4294967295 ∈ wsX0_pairOf := by decide +kernel
  refine j_lload_n hJ dX0_pairOf_0 rfl ?_
  refine j_bipush hJ (by decide) dX0_pairOf_1 ?_
  refine j_lshl (n := 32) hJ (by decide) dX0_pairOf_3 ?_
  refine j_iload_n hJ dX0_pairOf_4 rfl ?_
  refine j_loww hJ hlow ⟨by omega, by omega⟩ dX0_pairOf_5 dX0_pairOf_6 dX0_pairOf_9 ?_
  refine j_lor hJ (lZ_or (n := 32) (by decide) hlo) dX0_pairOf_10 ?_
  exact j_lret hJ (Nat.le_of_ble_eq_true rfl) (rfl) dX0_pairOf_11
set_option maxRecDepth 20000 in
theorem kX0_bitsOfWord (w : Int) (hw : 0 ≤ w ∧ w < 4294967296) : Ct l D [] wE yX0_bitsOfWord wsX0_bitsOfWord 0 0 0 [.int (iZ w)] () (fun v _ => ∃ z : Nat, v = some (.int (iZ (z : Int))) ∧ nb w z ∧ z ≤ 32) nX := by
  refine Ct.of (cc := cX0_bitsOfWord) (maxL := 2) (ret := some .int) rfl (by decide) rfl (Nat.le_of_ble_eq_true rfl) (fun J hJ => ?_)
  have loop : ∀ b : Nat, b ≤ 32 → w < 2 ^ b → J () 0 3 [(0, .int (iZ w)), (1, .int (iZ (b : Int)))] [] := by
    intro b
    induction b with
    | zero =>
      intro hb hwb
      refine j_iload_n hJ dX0_bitsOfWord_3 rfl ?_
      refine j_if_le (tgt := 21) hJ (by decide) ⟨by omega, by omega⟩ dX0_bitsOfWord_4 (fun h4 => ?_) (fun h4 => ?_)
      · refine j_iload_n hJ dX0_bitsOfWord_21 rfl ?_
        exact j_iret hJ (Nat.le_of_ble_eq_true rfl) (⟨0, rfl, ⟨hwb, Or.inl rfl⟩, by omega⟩) dX0_bitsOfWord_22
      · omega
    | succ b ih =>
      intro hb hwb
      have hp := pw_pos (B := 2) (by decide) b
      have hm : w % 4294967296 = w := Int.emod_eq_of_lt hw.1 hw.2
      have hq : 0 ≤ w / 2 ^ b := Int.ediv_nonneg hw.1 (Int.le_of_lt hp)
      have hq2 : w / 2 ^ b < 2 := Int.ediv_lt_of_lt_mul hp (by rw [pw_s] at hwb; omega)
      have hq3 : w / 2 ^ b = 0 → w < 2 ^ b := fun e => by
        have := Int.lt_ediv_add_one_mul_self w hp
        rw [e] at this; omega
      have hq4 : ¬ w / 2 ^ b = 0 → 2 ^ b ≤ w := fun e => by
        rcases Int.lt_or_le w (2 ^ b) with q | q
        · exact absurd (Int.ediv_eq_zero_of_lt hw.1 q) e
        · exact q
      refine j_iload_n hJ dX0_bitsOfWord_3 rfl ?_
      refine j_if_le (tgt := 21) hJ (by decide) ⟨by omega, by omega⟩ dX0_bitsOfWord_4 (fun h => absurd h (by omega)) (fun _ => ?_)
      refine j_iload_n hJ dX0_bitsOfWord_7 rfl ?_
      refine j_iload_n hJ dX0_bitsOfWord_8 rfl ?_
      refine j_iconst hJ dX0_bitsOfWord_9 ?_
      refine j_isub hJ dX0_bitsOfWord_10 ?_
      rw [show (((b + 1 : Nat) : Int) - 1) = (b : Int) by omega]
      refine j_iushr (n := b) hJ (by omega) dX0_bitsOfWord_11 ?_
      rw [hm, pw2_cast]
      refine j_if_ne (tgt := 21) hJ (by decide) ⟨by omega, by omega⟩ dX0_bitsOfWord_12 (fun h12 => ?_) (fun h12 => ?_)
      · refine j_iload_n hJ dX0_bitsOfWord_21 rfl ?_
        exact j_iret hJ (Nat.le_of_ble_eq_true rfl) (⟨b + 1, rfl, ⟨hwb, Or.inr (hq4 h12)⟩, by omega⟩) dX0_bitsOfWord_22
      · refine j_iinc hJ (by decide) dX0_bitsOfWord_15 rfl ?_
        refine j_goto (tgt := 3) hJ (by decide) dX0_bitsOfWord_18 ?_
        exact j_re hJ (ih (by omega) (hq3 h12)) ⟨rfl, by show some (Value.int (iZ (((b + 1 : Nat) : Int) + -1))) = _; rw [show ((b + 1 : Nat) : Int) + -1 = (b : Int) by omega], trivial⟩
  refine j_bipush hJ (by decide) dX0_bitsOfWord_0 ?_
  refine j_istore_n hJ (by decide) dX0_bitsOfWord_2 ?_
  exact j_re hJ (loop 32 (by omega) (by have : (2 : Int) ^ 32 = 4294967296 := (by decide); omega)) ⟨rfl, rfl, trivial⟩
set_option maxRecDepth 20000 in
theorem kX0_keepResult (r s : Int) (hr : 0 ≤ r ∧ r < 12) (hd : dgs 4294967296 513 (Z 2)) : Ct l D (tX cI cO) (wX cI cO a) yX0_keepResult wsX0_keepResult 1 0 60 [.ref (a 0), .int (iZ r), .int (iZ s)] Z (fun v Z' => v = none ∧ Z' = kp Z r.toNat s) nX := by
  refine Ct.of (cc := cX0_keepResult) (maxL := 4) (ret := none) rfl (by decide) rfl (Nat.le_of_ble_eq_true rfl) (fun J hJ => ?_)
  have hin : ∀ w ∈ u_ws RX0 TX0 6, w ∈ wsX0_keepResult := by decide +kernel
  have fin : ∀ n : Nat, n = lenr (Z 2) 512 → n ≤ 512 → J Z 0 25 [(0, .ref (a 0)), (1, .int (iZ r)), (2, .int (iZ s)), (3, .int (iZ (n : Int)))] [] := by
    intro n hn hn2
    have e : kp Z r.toNat s = zup (zup (zcp Z 2 0 (r.toNat + 5) 0 512) 0 r.toNat (n : Int)) 1 r.toNat (if (n : Int) = 0 then 0 else s) := by rw [hn]; rfl
    refine j_aload_n hJ dX0_keepResult_25 rfl ?_
    refine x_result hJ hin (by decide +kernel) dX0_keepResult_26 ?_
    refine j_iconst hJ dX0_keepResult_29 ?_
    refine j_aload_n hJ dX0_keepResult_30 rfl ?_
    refine x_words hJ hin (by decide +kernel) dX0_keepResult_31 ?_
    refine j_iload_n hJ dX0_keepResult_34 rfl ?_
    refine x_row hJ ⟨by omega, by omega⟩ dX0_keepResult_35 ?_
    refine j_iconst hJ dX0_keepResult_36 ?_
    refine j_sipush hJ (by decide) dX0_keepResult_37 ?_
    refine x_copy hJ (j1 := 2) (j2 := r.toNat + 5) (by omega) (by omega) (by omega) (by omega) (by omega) (by show (0 : Int) + 512 ≤ 513; omega) (by rw [xln_row]; omega) (by decide +kernel) (by decide +kernel) (by decide +kernel) (by decide +kernel) (by decide) (by decide) dX0_keepResult_40 ?_
    refine j_aload_n hJ dX0_keepResult_43 rfl ?_
    refine x_counts hJ hin (by decide +kernel) dX0_keepResult_44 ?_
    refine j_iload_n hJ dX0_keepResult_47 rfl ?_
    refine j_iload_n hJ dX0_keepResult_48 rfl ?_
    refine x_ast_c hJ ⟨by omega, by omega⟩ dX0_keepResult_49 ?_
    refine j_aload_n hJ dX0_keepResult_50 rfl ?_
    refine x_signs hJ hin (by decide +kernel) dX0_keepResult_51 ?_
    refine j_iload_n hJ dX0_keepResult_54 rfl ?_
    refine j_iload_n hJ dX0_keepResult_55 rfl ?_
    refine j_if_ne (tgt := 63) hJ (by decide) ⟨by omega, by omega⟩ dX0_keepResult_56 (fun h56 => ?_) (fun h56 => ?_)
    · refine j_iload_n hJ dX0_keepResult_63 rfl ?_
      refine x_ast_s hJ ⟨by omega, by omega⟩ dX0_keepResult_64 ?_
      exact j_vret hJ (Nat.le_of_ble_eq_true rfl) (⟨rfl, by rw [e]; first | (rw [if_pos (by omega)]; rfl) | (rw [if_neg (by omega)]; rfl)⟩) dX0_keepResult_65
    · refine j_iconst hJ dX0_keepResult_59 ?_
      refine j_goto (tgt := 64) hJ (by decide) dX0_keepResult_60 ?_
      refine x_ast_s hJ ⟨by omega, by omega⟩ dX0_keepResult_64 ?_
      exact j_vret hJ (Nat.le_of_ble_eq_true rfl) (⟨rfl, by rw [e]; first | (rw [if_pos (by omega)]; rfl) | (rw [if_neg (by omega)]; rfl)⟩) dX0_keepResult_65
  have loop : ∀ n : Nat, n ≤ 512 → lenr (Z 2) n = lenr (Z 2) 512 → J Z 0 4 [(0, .ref (a 0)), (1, .int (iZ r)), (2, .int (iZ s)), (3, .int (iZ (n : Int)))] [] := by
    intro n
    induction n with
    | zero =>
      intro h0 hn
      refine j_iload_n hJ dX0_keepResult_4 rfl ?_
      refine j_if_le (tgt := 25) hJ (by decide) ⟨by omega, by omega⟩ dX0_keepResult_5 (fun h5 => ?_) (fun h5 => ?_)
      · exact j_re hJ (fin 0 hn (by omega)) ⟨rfl, rfl, rfl, rfl, trivial⟩
      · omega
    | succ n ih =>
      intro h0 hn
      have q := hd n (by omega)
      rw [lenr_s] at hn
      have key : J Z 0 16 [(0, .ref (a 0)), (1, .int (iZ r)), (2, .int (iZ s)), (3, .int (iZ ((n + 1 : Nat) : Int)))] [.int (iZ (Z 2 n))] := by
        rw [← iZ_of (iZ (Z 2 n))]
        have hb : i32 (iZ (Z 2 n)).toInt := ⟨Int32.le_toInt _, Int32.toInt_lt _⟩
        have hz := wd0 q
        generalize (iZ (Z 2 n)).toInt = y at hb hz
        refine j_if_ne (tgt := 25) hJ (by decide) ⟨by omega, by omega⟩ dX0_keepResult_16 (fun h16 => ?_) (fun h16 => ?_)
        · rw [if_neg (fun e => h16 (hz.mpr e))] at hn
          exact j_re hJ (fin (n + 1) hn h0) ⟨rfl, rfl, rfl, rfl, trivial⟩
        · refine j_iinc hJ (by decide) dX0_keepResult_19 rfl ?_
          refine j_goto (tgt := 4) hJ (by decide) dX0_keepResult_22 ?_
          rw [if_pos (hz.mp h16)] at hn
          exact j_re hJ (ih (by omega) hn) ⟨rfl, rfl, rfl, by show some (Value.int (iZ (((n + 1 : Nat) : Int) + -1))) = _; rw [show ((n + 1 : Nat) : Int) + -1 = (n : Int) by omega], trivial⟩
      refine j_iload_n hJ dX0_keepResult_4 rfl ?_
      refine j_if_le (tgt := 25) hJ (by decide) ⟨by omega, by omega⟩ dX0_keepResult_5 (fun h => absurd h (by omega)) (fun _ => ?_)
      refine j_aload_n hJ dX0_keepResult_8 rfl ?_
      refine x_result hJ hin (by decide +kernel) dX0_keepResult_9 ?_
      refine j_iload_n hJ dX0_keepResult_12 rfl ?_
      refine j_iconst hJ dX0_keepResult_13 ?_
      refine j_isub hJ dX0_keepResult_14 ?_
      refine x_ald_r hJ ⟨by omega, by omega⟩ dX0_keepResult_15 ?_
      rw [show ((((n + 1 : Nat) : Int)) - 1).toNat = n by omega]
      exact j_re hJ key ⟨rfl, rfl, rfl, rfl, trivial⟩
  refine j_sipush hJ (by decide) dX0_keepResult_0 ?_
  refine j_istore_n hJ (by decide) dX0_keepResult_3 ?_
  exact j_re hJ (loop 512 (by omega) rfl) ⟨rfl, rfl, rfl, rfl, trivial⟩
end X2
