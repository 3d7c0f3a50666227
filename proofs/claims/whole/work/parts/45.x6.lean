theorem lim_y {g : Nat → Int} {r z : Int} (h : (z.natAbs : Int) < LIM) : lim g r z = (0, gset g r.toNat z) := if_pos h
theorem lim_n {g : Nat → Int} {r z : Int} (h : LIM ≤ (z.natAbs : Int)) : lim g r z = (2, g) := if_neg (by omega)
theorem oApp_y {g : Nat → Int} {r w : Int} (h : isRg r) : oApp g r w = lim g r ((if g r.toNat < 0 then -1 else 1) * (((g r.toNat).natAbs : Int) * 4294967296 + w % 4294967296)) := if_pos h
theorem oAdd_n {g : Nat → Int} {r a b : Int} (h : ¬ (isRg r ∧ isRg a ∧ isRg b)) : oAdd g r a b = (1, g) := if_neg h
theorem oAdd_y {g : Nat → Int} {r a b : Int} (h : isRg r ∧ isRg a ∧ isRg b) : oAdd g r a b = lim g r (g a.toNat + g b.toNat) := if_pos h
theorem oSub_n {g : Nat → Int} {r a b : Int} (h : ¬ (isRg r ∧ isRg a ∧ isRg b)) : oSub g r a b = (1, g) := if_neg h
theorem oSub_y {g : Nat → Int} {r a b : Int} (h : isRg r ∧ isRg a ∧ isRg b) : oSub g r a b = lim g r (g a.toNat - g b.toNat) := if_pos h
theorem oMul_n {g : Nat → Int} {r a b : Int} (h : ¬ (isRg r ∧ isRg a ∧ isRg b)) : oMul g r a b = (1, g) := if_neg h
theorem oMul_y {g : Nat → Int} {r a b : Int} (h : isRg r ∧ isRg a ∧ isRg b) : oMul g r a b = lim g r (g a.toNat * g b.toNat) := if_pos h
/-- keepResult over a result row that fits -/
theorem keep_XI {Z : ZZ} {g : Nat → Int} (h : XI Z g) {f : Nat → Int} (hf : dgs 4294967296 513 f) (h0 : f 512 = 0) {r : Int} (hr : isRg r) {s z : Int} (hz : vs 4294967296 f 513 = (z.natAbs : Int)) (hs : z ≠ 0 → s = z.sign) : lim g r z = (0, gset g r.toNat z) ∧ XI (kp (zrw Z 2 513 f) r.toNat s) (gset g r.toNat z) := by
  rw [vs_513, h0, Int.zero_mul, Int.add_zero] at hz
  have hlt : (z.natAbs : Int) < LIM := by rw [← hz, LIM_X]; exact vs_lt (by decide) (dgs_mono hf (by omega))
  refine ⟨lim_y hlt, kp_XI (res_XI h hf) (by have := hr.2; have := hr.1; omega) ?_ hs⟩
  rw [vs_congr (g := f) (fun k hk => zrw_in (by omega))]; exact hz
theorem keep_XI2 {Z : ZZ} {g : Nat → Int} (h : XI Z g) {f : Nat → Int} (hf : dgs 4294967296 513 f) (h0 : f 512 = 0) {r : Int} (hr : isRg r) {s z : Int} (hz : vs 4294967296 f 513 = (z.natAbs : Int)) (hs : z ≠ 0 → s = z.sign) : (lim g r z).1 = 0 ∧ XI (kp (zrw Z 2 513 f) r.toNat s) (lim g r z).2 := by
  have k := keep_XI h hf h0 hr hz hs
  rw [k.1]; exact ⟨rfl, k.2⟩
theorem fits_not {f : Nat → Int} (hf : dgs 4294967296 513 f) (h0 : f 512 ≠ 0) : LIM ≤ vs 4294967296 f 513 := by
  rw [vs_513]
  have h1 := vs_nonneg (B := 4294967296) (by decide) (dgs_mono hf (show 512 ≤ 513 by omega))
  have h2 := hf 512 (by omega)
  have h3 := Int.mul_le_mul_of_nonneg_right (show 1 ≤ f 512 by omega) (Int.le_of_lt LIM_pos)
  omega
section X6
variable (l : Launch) (D : va_G) (cI cO : ClassId) (a : Nat → Nat) (Z : ZZ)
set_option maxRecDepth 20000 in
theorem kX0_append (hl0 : l.stackTraces = false) (g : Nat → Int) (hI : XI Z g) (r w : Int) (h0 : i32 r) (h1 : i32 w) : Ct l D (tX cI cO) (wX cI cO a) yX0_append wsX0_append 7 2 120 [.ref (a 0), .int (iZ r), .int (iZ w)] Z (fun v Z' => v = none ∧ (oApp g r w).1 = 0 ∧ XI Z' (oApp g r w).2) (pT g (oApp g r w).1 eS) := by
  refine Ct.of (cc := cX0_append) (maxL := 4) (ret := none) rfl (by decide) rfl (Nat.le_of_ble_eq_true rfl) (fun J hJ => ?_)
  have hin : ∀ w ∈ u_ws RX0 TX0 6, w ∈ wsX0_append := by decide +kernel
  have key : isRg r → lenr (Z (r.toNat + 5)) 512 < 512 → ∃ f, zup (zcp (zrw Z 2 513 (fun _ => 0)) (r.toNat + 5) 0 2 1 (lenr (Z (r.toNat + 5)) 512)) 2 0 (w % 4294967296) = zrw Z 2 513 f ∧ dgs 4294967296 513 f ∧ f 512 = 0 ∧ vs 4294967296 f 513 = ((g r.toNat).natAbs : Int) * 4294967296 + w % 4294967296 := by
    intro hr hlt
    obtain ⟨hd, hv, hs, hc⟩ := hI.2 r.toNat (by have := hr.2; have := hr.1; omega)
    have hz := lenr_zero (Z (r.toNat + 5)) 512
    rw [vs_len 4294967296 (Z (r.toNat + 5)) 512] at hv
    generalize lenr (Z (r.toNat + 5)) 512 = n at hlt hz hv
    have hr0 : zup (zcp (zrw Z 2 513 (fun _ => 0)) (r.toNat + 5) 0 2 1 n) 2 0 (w % 4294967296) 2 0 = w % 4294967296 := zup_eq _ _ _ _
    have hr1 : ∀ i, i < n → zup (zcp (zrw Z 2 513 (fun _ => 0)) (r.toNat + 5) 0 2 1 n) 2 0 (w % 4294967296) 2 (1 + i) = Z (r.toNat + 5) i := fun i hi => by
      rw [zup_ne (by omega)]
      unfold zcp
      rw [if_pos ⟨rfl, by omega, by omega⟩, zrw_off (by omega)]
      congr 1; omega
    have hr2 : ∀ i, n ≤ i → 1 + i < 513 → zup (zcp (zrw Z 2 513 (fun _ => 0)) (r.toNat + 5) 0 2 1 n) 2 0 (w % 4294967296) 2 (1 + i) = 0 := fun i hi hi2 => by
      rw [zup_ne (by omega)]
      unfold zcp
      rw [if_neg (by omega), zrw_in (by omega)]
    have hoff : ∀ j, j ≠ 2 → zup (zcp (zrw Z 2 513 (fun _ => 0)) (r.toNat + 5) 0 2 1 n) 2 0 (w % 4294967296) j = Z j := fun j hj => by
      rw [zup_off _ 2 _ _ hj, zcp_off _ _ _ _ _ _ hj, zrw_off hj]
    have hge : ∀ i, 513 ≤ i → zup (zcp (zrw Z 2 513 (fun _ => 0)) (r.toNat + 5) 0 2 1 n) 2 0 (w % 4294967296) 2 i = Z 2 i := fun i hi => by
      rw [zup_ne (by omega)]
      unfold zcp
      rw [if_neg (by omega), zrw_ge hi]
    generalize zup (zcp (zrw Z 2 513 (fun _ => 0)) (r.toNat + 5) 0 2 1 n) 2 0 (w % 4294967296) = S at hr0 hr1 hr2 hoff hge
    refine ⟨S 2, ?_, ?_, ?_, ?_⟩
    · funext j i
      by_cases q : j = 2
      · subst q
        rcases Nat.lt_or_ge i 513 with e | e
        · rw [zrw_in e]
        · rw [zrw_ge e, hge i e]
      · rw [zrw_off q, hoff j q]
    · intro i hi
      rcases Nat.eq_zero_or_pos i with e | e
      · subst e; rw [hr0]; exact ⟨by omega, by omega⟩
      · obtain ⟨y, rfl⟩ : ∃ y, i = 1 + y := ⟨i - 1, by omega⟩
        rcases Nat.lt_or_ge y n with e2 | e2
        · rw [hr1 y e2]; exact hd y (by omega)
        · rw [hr2 y e2 hi]; exact ⟨by omega, by omega⟩
    · exact hr2 511 (by omega) (by omega)
    · rw [show 513 = 512 + 1 from rfl, vs_1, hr0, vs_top (m := n) (n := 512) (by omega) (fun i e1 e2 => hr2 i e1 (by omega)), vs_congr (g := Z (r.toNat + 5)) (fun i hi => hr1 i hi), hv]
      omega
  refine j_iload_n hJ dX0_append_0 rfl ?_
  refine j_callS hJ (kX0_checkRegister l D hl0 _ ⟨by omega, by omega⟩) rfl gX0_append_X0_checkRegister rfl hsX0_checkRegister rfl ⟨Nat.le_of_ble_eq_true rfl, Nat.le_of_ble_eq_true rfl⟩ (Nat.le_of_ble_eq_true rfl) (Nat.le_of_ble_eq_true rfl) dX0_append_1 (fun E h => ⟨hI, Or.inl ⟨by rw [oApp_n h.2], h.1⟩⟩) (fun r1 hp1 => ?_)
  obtain ⟨rfl, hr1⟩ := hp1
  obtain ⟨hd, hv, hs, hc⟩ := hI.2 r.toNat (by omega)
  have ll := lenr_le (Z (r.toNat + 5)) 512
  have sc := sg_cases (g r.toNat)
  refine j_aload_n hJ dX0_append_4 rfl ?_
  refine x_counts hJ hin (by decide +kernel) dX0_append_5 ?_
  refine j_iload_n hJ dX0_append_8 rfl ?_
  refine x_ald_c hJ ⟨by omega, by omega⟩ dX0_append_9 ?_
  rw [hc]
  refine j_istore_n hJ (by decide) dX0_append_10 ?_
  refine j_iload_n hJ dX0_append_11 rfl ?_
  refine j_sipush hJ (by decide) dX0_append_12 ?_
  refine j_icmp_lt (tgt := 28) hJ (by decide) ⟨by omega, by omega⟩ ⟨by omega, by omega⟩ dX0_append_15 (fun h15 => ?_) (fun h15 => ?_)
  · refine j_aload_n hJ dX0_append_28 rfl ?_
    refine x_result hJ hin (by decide +kernel) dX0_append_29 ?_
    refine j_iconst hJ dX0_append_32 ?_
    refine x_fill hJ (j := 2) (N := 513) (by decide) rfl gX0_append_J7_fill_53178 ⟨Nat.le_of_ble_eq_true rfl, Nat.le_of_ble_eq_true rfl⟩ (Nat.le_of_ble_eq_true rfl) (Nat.le_of_ble_eq_true rfl) dX0_append_33 ?_
    refine j_aload_n hJ dX0_append_36 rfl ?_
    refine x_words hJ hin (by decide +kernel) dX0_append_37 ?_
    refine j_iload_n hJ dX0_append_40 rfl ?_
    refine x_row hJ ⟨by omega, by omega⟩ dX0_append_41 ?_
    refine j_iconst hJ dX0_append_42 ?_
    refine j_aload_n hJ dX0_append_43 rfl ?_
    refine x_result hJ hin (by decide +kernel) dX0_append_44 ?_
    refine j_iconst hJ dX0_append_47 ?_
    refine j_iload_n hJ dX0_append_48 rfl ?_
    refine x_copy hJ (j1 := r.toNat + 5) (j2 := 2) (by omega) (by omega) (by omega) (by omega) (by omega) (by rw [xln_row]; omega) (by show (1 : Int) + _ ≤ 513; omega) (by decide +kernel) (by decide +kernel) (by decide +kernel) (by decide +kernel) (Nat.le_of_ble_eq_true rfl) (Nat.le_of_ble_eq_true rfl) dX0_append_49 ?_
    rw [show (0 : Int).toNat = 0 from rfl, show (1 : Int).toNat = 1 from rfl, show ((lenr (Z (r.toNat + 5)) 512 : Nat) : Int).toNat = lenr (Z (r.toNat + 5)) 512 by omega]
    refine j_aload_n hJ dX0_append_52 rfl ?_
    refine x_result hJ hin (by decide +kernel) dX0_append_53 ?_
    refine j_iconst hJ dX0_append_56 ?_
    refine j_iload_n hJ dX0_append_57 rfl ?_
    rw [← iZ_mod w]
    refine x_ast_r hJ ⟨by omega, by omega⟩ dX0_append_58 ?_
    obtain ⟨f, e1, e2, e3, e4⟩ := key hr1 (by omega)
    rw [show (0 : Int).toNat = 0 from rfl, e1]
    refine j_aload_n hJ dX0_append_59 rfl ?_
    refine j_iload_n hJ dX0_append_60 rfl ?_
    refine j_aload_n hJ dX0_append_61 rfl ?_
    refine x_signs hJ hin (by decide +kernel) dX0_append_62 ?_
    refine j_iload_n hJ dX0_append_65 rfl ?_
    refine x_ald_s hJ ⟨by omega, by omega⟩ dX0_append_66 ?_
    rw [zrw_off (j' := 1) (by omega), hs]
    refine j_if_ge (tgt := 74) hJ (by decide) ⟨by omega, by omega⟩ dX0_append_67 (fun h67 => ?_) (fun h67 => ?_)
    · refine j_iconst hJ dX0_append_74 ?_
      refine j_callV hJ (kX0_keepResult l D cI cO a _ _ _ hr1 (res_XI hI e2).1.1) rfl gX0_append_X0_keepResult rfl hdX0_keepResult rfl ⟨Nat.le_of_ble_eq_true rfl, Nat.le_of_ble_eq_true rfl⟩ (Nat.le_of_ble_eq_true rfl) (Nat.le_of_ble_eq_true rfl) rfl rfl dX0_append_75 (fun _ _ h => False.elim h) (fun r75 Z75 hp75 => ?_)
      obtain ⟨rfl, rfl⟩ := hp75
      exact j_vret hJ (Nat.le_of_ble_eq_true rfl) (by rw [oApp_y hr1]; first | (rw [if_pos (by omega)]; have k := keep_XI hI e2 e3 hr1 (s := -1) (z := -1 * (((g r.toNat).natAbs : Int) * 4294967296 + w % 4294967296)) (by rw [e4]; omega) (fun hne => by have q := sg_cases (-1 * (((g r.toNat).natAbs : Int) * 4294967296 + w % 4294967296)); omega); rw [k.1]; exact ⟨rfl, rfl, k.2⟩) | (rw [if_neg (by omega)]; have k := keep_XI hI e2 e3 hr1 (s := 1) (z := 1 * (((g r.toNat).natAbs : Int) * 4294967296 + w % 4294967296)) (by rw [e4]; omega) (fun hne => by have q := sg_cases (1 * (((g r.toNat).natAbs : Int) * 4294967296 + w % 4294967296)); omega); rw [k.1]; exact ⟨rfl, rfl, k.2⟩)) dX0_append_78
    · refine j_iconst hJ dX0_append_70 ?_
      refine j_goto (tgt := 75) hJ (by decide) dX0_append_71 ?_
      refine j_callV hJ (kX0_keepResult l D cI cO a _ _ _ hr1 (res_XI hI e2).1.1) rfl gX0_append_X0_keepResult rfl hdX0_keepResult rfl ⟨Nat.le_of_ble_eq_true rfl, Nat.le_of_ble_eq_true rfl⟩ (Nat.le_of_ble_eq_true rfl) (Nat.le_of_ble_eq_true rfl) rfl rfl dX0_append_75 (fun _ _ h => False.elim h) (fun r75 Z75 hp75 => ?_)
      obtain ⟨rfl, rfl⟩ := hp75
      exact j_vret hJ (Nat.le_of_ble_eq_true rfl) (by rw [oApp_y hr1]; first | (rw [if_pos (by omega)]; have k := keep_XI hI e2 e3 hr1 (s := -1) (z := -1 * (((g r.toNat).natAbs : Int) * 4294967296 + w % 4294967296)) (by rw [e4]; omega) (fun hne => by have q := sg_cases (-1 * (((g r.toNat).natAbs : Int) * 4294967296 + w % 4294967296)); omega); rw [k.1]; exact ⟨rfl, rfl, k.2⟩) | (rw [if_neg (by omega)]; have k := keep_XI hI e2 e3 hr1 (s := 1) (z := 1 * (((g r.toNat).natAbs : Int) * 4294967296 + w % 4294967296)) (by rw [e4]; omega) (fun hne => by have q := sg_cases (1 * (((g r.toNat).natAbs : Int) * 4294967296 + w % 4294967296)); omega); rw [k.1]; exact ⟨rfl, rfl, k.2⟩)) dX0_append_78
  · exact x_throw_ise (text := "the number is too long") hJ hl0 (by decide +kernel) (by decide +kernel) (by decide +kernel) (by decide +kernel) dX0_append_18 dX0_append_21 dX0_append_22 dX0_append_24 dX0_append_27 (Nat.le_of_ble_eq_true rfl) (Nat.le_of_ble_eq_true rfl) (Nat.le_of_ble_eq_true rfl) (by (have h5 : LIM ≤ ((g r.toNat).natAbs : Int) * 4294967296 := (by have h6 := lenr_ge (B := 4294967296) (by decide) hd (by omega); rw [show lenr (Z (r.toNat + 5)) 512 = 512 by omega, hv] at h6; have h7 := Int.mul_le_mul_of_nonneg_right h6 (show (0 : Int) ≤ 4294967296 by decide); rw [LIM_X]; exact Int.le_trans (Int.le_of_eq (pw_s 4294967296 511)) h7); exact ⟨hI, Or.inr ⟨by rw [oApp_y hr1, lim_n (by split <;> omega)], rfl⟩⟩))
set_option maxRecDepth 20000 in
theorem kX0_putSum (hl0 : l.stackTraces = false) (g : Nat → Int) (hI : XI Z g) (r i j w : Int) (h0 : isRg r) (h1 : isRg i) (h2 : isRg j) (hw : (w.natAbs : Int) = ((g j.toNat).natAbs : Int)) : Ct l D (tX cI cO) (wX cI cO a) yX0_putSum wsX0_putSum 7 1 120 [.ref (a 0), .int (iZ r), .int (iZ i), .int (iZ j), .int (iZ w.sign)] Z (fun v Z' => v = none ∧ (lim g r (g i.toNat + w)).1 = 0 ∧ XI Z' (lim g r (g i.toNat + w)).2) (pT g (lim g r (g i.toNat + w)).1 eS) := by
  refine Ct.of (cc := cX0_putSum) (maxL := 6) (ret := none) rfl (by decide) rfl (Nat.le_of_ble_eq_true rfl) (fun J hJ => ?_)
  have hin : ∀ w ∈ u_ws RX0 TX0 6, w ∈ wsX0_putSum := by decide +kernel
  have s1 := (hI.2 i.toNat (by omega)).2.2.1
  have c1 := sg_cases (g i.toNat)
  have c2 := sg_cases w
  have cs := cz_spec ((g i.toNat).natAbs) ((g j.toNat).natAbs)
  have c3 := sg_cases (g i.toNat + w)
  have pr : (g i.toNat).sign * w.sign < 0 ∨ 0 ≤ (g i.toNat).sign * w.sign := by omega
  have pr1 : (g i.toNat).sign * w.sign < 0 → (g i.toNat < 0 ∧ 0 < w) ∨ (0 < g i.toNat ∧ w < 0) := by
    rcases c1 with ⟨_, e1, _⟩ | ⟨_, e1, _⟩ | ⟨_, e1, _⟩ <;> rcases c2 with ⟨_, e2, _⟩ | ⟨_, e2, _⟩ | ⟨_, e2, _⟩ <;> rw [e1, e2] <;> omega
  have pr2 : 0 ≤ (g i.toNat).sign * w.sign → (g i.toNat ≤ 0 ∧ w ≤ 0) ∨ (0 ≤ g i.toNat ∧ 0 ≤ w) := by
    rcases c1 with ⟨_, e1, _⟩ | ⟨_, e1, _⟩ | ⟨_, e1, _⟩ <;> rcases c2 with ⟨_, e2, _⟩ | ⟨_, e2, _⟩ | ⟨_, e2, _⟩ <;> rw [e1, e2] <;> omega
  have pr3 : -1 ≤ (g i.toNat).sign * w.sign ∧ (g i.toNat).sign * w.sign ≤ 1 := by
    rcases c1 with ⟨_, e1, _⟩ | ⟨_, e1, _⟩ | ⟨_, e1, _⟩ <;> rcases c2 with ⟨_, e2, _⟩ | ⟨_, e2, _⟩ | ⟨_, e2, _⟩ <;> rw [e1, e2] <;> decide
  refine j_aload_n hJ dX0_putSum_0 rfl ?_
  refine x_signs hJ hin (by decide +kernel) dX0_putSum_1 ?_
  refine j_iload_n hJ dX0_putSum_4 rfl ?_
  refine x_ald_s hJ ⟨by omega, by omega⟩ dX0_putSum_5 ?_
  rw [s1]
  refine j_if_ne (tgt := 14) hJ (by decide) ⟨by omega, by omega⟩ dX0_putSum_6 (fun h6 => ?_) (fun h6 => ?_)
  · refine j_aload_n hJ dX0_putSum_14 rfl ?_
    refine x_signs hJ hin (by decide +kernel) dX0_putSum_15 ?_
    refine j_iload_n hJ dX0_putSum_18 rfl ?_
    refine x_ald_s hJ ⟨by omega, by omega⟩ dX0_putSum_19 ?_
    try rw [s1]
    refine j_istore hJ (by decide) dX0_putSum_20 ?_
    refine j_aload_n hJ dX0_putSum_22 rfl ?_
    refine x_signs hJ hin (by decide +kernel) dX0_putSum_23 ?_
    refine j_iload_n hJ dX0_putSum_26 rfl ?_
    refine x_ald_s hJ ⟨by omega, by omega⟩ dX0_putSum_27 ?_
    rw [s1]
    refine j_iload hJ dX0_putSum_28 rfl ?_
    refine j_imul hJ dX0_putSum_30 ?_
    generalize (g i.toNat).sign * w.sign = pp at pr pr1 pr2 pr3 ⊢
    refine j_if_lt (tgt := 47) hJ (by decide) ⟨by omega, by omega⟩ dX0_putSum_31 (fun h31 => ?_) (fun h31 => ?_)
    · refine j_aload_n hJ dX0_putSum_47 rfl ?_
      refine j_iload_n hJ dX0_putSum_48 rfl ?_
      refine j_iload_n hJ dX0_putSum_49 rfl ?_
      refine j_callV hJ (kX0_orderOfSizes l D cI cO a _ _ hI _ _ h1 h2) rfl gX0_putSum_X0_orderOfSizes rfl hdX0_orderOfSizes rfl ⟨Nat.le_of_ble_eq_true rfl, Nat.le_of_ble_eq_true rfl⟩ (Nat.le_of_ble_eq_true rfl) (Nat.le_of_ble_eq_true rfl) rfl rfl dX0_putSum_50 (fun _ _ h => False.elim h) (fun r50 Z50 hp50 => ?_)
      obtain ⟨rfl, rfl⟩ := hp50
      generalize cz ((g i.toNat).natAbs) ((g j.toNat).natAbs) = z at cs ⊢
      refine j_if_lt (tgt := 65) hJ (by decide) ⟨by omega, by omega⟩ dX0_putSum_53 (fun h53 => ?_) (fun h53 => ?_)
      · refine j_aload_n hJ dX0_putSum_65 rfl ?_
        refine j_iload_n hJ dX0_putSum_66 rfl ?_
        refine j_iload_n hJ dX0_putSum_67 rfl ?_
        refine j_callV hJ (kX0_subtractSizes l D cI cO a _ _ hI _ _ h2 h1 (by omega)) rfl gX0_putSum_X0_subtractSizes rfl hdX0_subtractSizes rfl ⟨Nat.le_of_ble_eq_true rfl, Nat.le_of_ble_eq_true rfl⟩ (Nat.le_of_ble_eq_true rfl) (Nat.le_of_ble_eq_true rfl) rfl rfl dX0_putSum_68 (fun _ _ h => False.elim h) (fun r68 Z68 hp68 => ?_)
        obtain ⟨rfl, f, rfl, hf, hv, h512⟩ := hp68
        have hX := res_XI hI hf
        refine j_iload hJ dX0_putSum_71 rfl ?_
        refine j_istore hJ (by decide) dX0_putSum_73 ?_
        refine j_aload_n hJ dX0_putSum_75 rfl ?_
        refine j_iload_n hJ dX0_putSum_76 rfl ?_
        refine j_iload hJ dX0_putSum_77 rfl ?_
        refine j_callV hJ (kX0_keepResult l D cI cO a _ _ _ h0 hX.1.1) rfl gX0_putSum_X0_keepResult rfl hdX0_keepResult rfl ⟨Nat.le_of_ble_eq_true rfl, Nat.le_of_ble_eq_true rfl⟩ (Nat.le_of_ble_eq_true rfl) (Nat.le_of_ble_eq_true rfl) rfl rfl dX0_putSum_79 (fun _ _ h => False.elim h) (fun r79 Z79 hp79 => ?_)
        obtain ⟨rfl, rfl⟩ := hp79
        exact j_vret hJ (Nat.le_of_ble_eq_true rfl) (⟨rfl, keep_XI2 hI hf h512 h0 (by rw [hv]; omega) (by omega)⟩) dX0_putSum_82
      · refine j_aload_n hJ dX0_putSum_56 rfl ?_
        refine j_iload_n hJ dX0_putSum_57 rfl ?_
        refine j_iload_n hJ dX0_putSum_58 rfl ?_
        refine j_callV hJ (kX0_subtractSizes l D cI cO a _ _ hI _ _ h1 h2 (by omega)) rfl gX0_putSum_X0_subtractSizes rfl hdX0_subtractSizes rfl ⟨Nat.le_of_ble_eq_true rfl, Nat.le_of_ble_eq_true rfl⟩ (Nat.le_of_ble_eq_true rfl) (Nat.le_of_ble_eq_true rfl) rfl rfl dX0_putSum_59 (fun _ _ h => False.elim h) (fun r59 Z59 hp59 => ?_)
        obtain ⟨rfl, f, rfl, hf, hv, h512⟩ := hp59
        have hX := res_XI hI hf
        refine j_goto (tgt := 75) hJ (by decide) dX0_putSum_62 ?_
        refine j_aload_n hJ dX0_putSum_75 rfl ?_
        refine j_iload_n hJ dX0_putSum_76 rfl ?_
        refine j_iload hJ dX0_putSum_77 rfl ?_
        refine j_callV hJ (kX0_keepResult l D cI cO a _ _ _ h0 hX.1.1) rfl gX0_putSum_X0_keepResult rfl hdX0_keepResult rfl ⟨Nat.le_of_ble_eq_true rfl, Nat.le_of_ble_eq_true rfl⟩ (Nat.le_of_ble_eq_true rfl) (Nat.le_of_ble_eq_true rfl) rfl rfl dX0_putSum_79 (fun _ _ h => False.elim h) (fun r79 Z79 hp79 => ?_)
        obtain ⟨rfl, rfl⟩ := hp79
        exact j_vret hJ (Nat.le_of_ble_eq_true rfl) (⟨rfl, keep_XI2 hI hf h512 h0 (by rw [hv]; omega) (by omega)⟩) dX0_putSum_82
    · refine j_aload_n hJ dX0_putSum_34 rfl ?_
      refine j_iload_n hJ dX0_putSum_35 rfl ?_
      refine j_iload_n hJ dX0_putSum_36 rfl ?_
      refine j_callV hJ (kX0_addSizes l D cI cO a _ _ hI _ _ h1 h2) rfl gX0_putSum_X0_addSizes rfl hdX0_addSizes rfl ⟨Nat.le_of_ble_eq_true rfl, Nat.le_of_ble_eq_true rfl⟩ (Nat.le_of_ble_eq_true rfl) (Nat.le_of_ble_eq_true rfl) rfl rfl dX0_putSum_37 (fun _ _ h => False.elim h) (fun r37 Z37 hp37 => ?_)
      obtain ⟨rfl, f, rfl, hf, hv⟩ := hp37
      have hX := res_XI hI hf
      have hf2 : zrw Z 2 513 f 2 512 = f 512 := zrw_in (by omega)
      refine j_aload_n hJ dX0_putSum_40 rfl ?_
      refine j_callV hJ (kX0_checkResultFits l D cI cO a _ hl0 hX.1.1) rfl gX0_putSum_X0_checkResultFits rfl hdX0_checkResultFits rfl ⟨Nat.le_of_ble_eq_true rfl, Nat.le_of_ble_eq_true rfl⟩ (Nat.le_of_ble_eq_true rfl) (Nat.le_of_ble_eq_true rfl) rfl rfl dX0_putSum_41 (fun E Z' h => (by obtain ⟨rfl, hne, rfl⟩ := h; rw [hf2] at hne; have := fits_not hf hne; exact ⟨hX, Or.inr ⟨by rw [lim_n (by omega)], rfl⟩⟩)) (fun r41 Z41 hp41 => ?_)
      obtain ⟨rfl, h512, rfl⟩ := hp41
      rw [hf2] at h512
      refine j_goto (tgt := 75) hJ (by decide) dX0_putSum_44 ?_
      refine j_aload_n hJ dX0_putSum_75 rfl ?_
      refine j_iload_n hJ dX0_putSum_76 rfl ?_
      refine j_iload hJ dX0_putSum_77 rfl ?_
      refine j_callV hJ (kX0_keepResult l D cI cO a _ _ _ h0 hX.1.1) rfl gX0_putSum_X0_keepResult rfl hdX0_keepResult rfl ⟨Nat.le_of_ble_eq_true rfl, Nat.le_of_ble_eq_true rfl⟩ (Nat.le_of_ble_eq_true rfl) (Nat.le_of_ble_eq_true rfl) rfl rfl dX0_putSum_79 (fun _ _ h => False.elim h) (fun r79 Z79 hp79 => ?_)
      obtain ⟨rfl, rfl⟩ := hp79
      exact j_vret hJ (Nat.le_of_ble_eq_true rfl) (⟨rfl, keep_XI2 hI hf h512 h0 (by rw [hv]; omega) (by omega)⟩) dX0_putSum_82
  · refine j_iload hJ dX0_putSum_9 rfl ?_
    refine j_goto (tgt := 20) hJ (by decide) dX0_putSum_11 ?_
    try rw [s1]
    refine j_istore hJ (by decide) dX0_putSum_20 ?_
    refine j_aload_n hJ dX0_putSum_22 rfl ?_
    refine x_signs hJ hin (by decide +kernel) dX0_putSum_23 ?_
    refine j_iload_n hJ dX0_putSum_26 rfl ?_
    refine x_ald_s hJ ⟨by omega, by omega⟩ dX0_putSum_27 ?_
    rw [s1]
    refine j_iload hJ dX0_putSum_28 rfl ?_
    refine j_imul hJ dX0_putSum_30 ?_
    generalize (g i.toNat).sign * w.sign = pp at pr pr1 pr2 pr3 ⊢
    refine j_if_lt (tgt := 47) hJ (by decide) ⟨by omega, by omega⟩ dX0_putSum_31 (fun h31 => ?_) (fun h31 => ?_)
    · refine j_aload_n hJ dX0_putSum_47 rfl ?_
      refine j_iload_n hJ dX0_putSum_48 rfl ?_
      refine j_iload_n hJ dX0_putSum_49 rfl ?_
      refine j_callV hJ (kX0_orderOfSizes l D cI cO a _ _ hI _ _ h1 h2) rfl gX0_putSum_X0_orderOfSizes rfl hdX0_orderOfSizes rfl ⟨Nat.le_of_ble_eq_true rfl, Nat.le_of_ble_eq_true rfl⟩ (Nat.le_of_ble_eq_true rfl) (Nat.le_of_ble_eq_true rfl) rfl rfl dX0_putSum_50 (fun _ _ h => False.elim h) (fun r50 Z50 hp50 => ?_)
      obtain ⟨rfl, rfl⟩ := hp50
      generalize cz ((g i.toNat).natAbs) ((g j.toNat).natAbs) = z at cs ⊢
      refine j_if_lt (tgt := 65) hJ (by decide) ⟨by omega, by omega⟩ dX0_putSum_53 (fun h53 => ?_) (fun h53 => ?_)
      · refine j_aload_n hJ dX0_putSum_65 rfl ?_
        refine j_iload_n hJ dX0_putSum_66 rfl ?_
        refine j_iload_n hJ dX0_putSum_67 rfl ?_
        refine j_callV hJ (kX0_subtractSizes l D cI cO a _ _ hI _ _ h2 h1 (by omega)) rfl gX0_putSum_X0_subtractSizes rfl hdX0_subtractSizes rfl ⟨Nat.le_of_ble_eq_true rfl, Nat.le_of_ble_eq_true rfl⟩ (Nat.le_of_ble_eq_true rfl) (Nat.le_of_ble_eq_true rfl) rfl rfl dX0_putSum_68 (fun _ _ h => False.elim h) (fun r68 Z68 hp68 => ?_)
        obtain ⟨rfl, f, rfl, hf, hv, h512⟩ := hp68
        have hX := res_XI hI hf
        refine j_iload hJ dX0_putSum_71 rfl ?_
        refine j_istore hJ (by decide) dX0_putSum_73 ?_
        refine j_aload_n hJ dX0_putSum_75 rfl ?_
        refine j_iload_n hJ dX0_putSum_76 rfl ?_
        refine j_iload hJ dX0_putSum_77 rfl ?_
        refine j_callV hJ (kX0_keepResult l D cI cO a _ _ _ h0 hX.1.1) rfl gX0_putSum_X0_keepResult rfl hdX0_keepResult rfl ⟨Nat.le_of_ble_eq_true rfl, Nat.le_of_ble_eq_true rfl⟩ (Nat.le_of_ble_eq_true rfl) (Nat.le_of_ble_eq_true rfl) rfl rfl dX0_putSum_79 (fun _ _ h => False.elim h) (fun r79 Z79 hp79 => ?_)
        obtain ⟨rfl, rfl⟩ := hp79
        exact j_vret hJ (Nat.le_of_ble_eq_true rfl) (⟨rfl, keep_XI2 hI hf h512 h0 (by rw [hv]; omega) (by omega)⟩) dX0_putSum_82
      · refine j_aload_n hJ dX0_putSum_56 rfl ?_
        refine j_iload_n hJ dX0_putSum_57 rfl ?_
        refine j_iload_n hJ dX0_putSum_58 rfl ?_
        refine j_callV hJ (kX0_subtractSizes l D cI cO a _ _ hI _ _ h1 h2 (by omega)) rfl gX0_putSum_X0_subtractSizes rfl hdX0_subtractSizes rfl ⟨Nat.le_of_ble_eq_true rfl, Nat.le_of_ble_eq_true rfl⟩ (Nat.le_of_ble_eq_true rfl) (Nat.le_of_ble_eq_true rfl) rfl rfl dX0_putSum_59 (fun _ _ h => False.elim h) (fun r59 Z59 hp59 => ?_)
        obtain ⟨rfl, f, rfl, hf, hv, h512⟩ := hp59
        have hX := res_XI hI hf
        refine j_goto (tgt := 75) hJ (by decide) dX0_putSum_62 ?_
        refine j_aload_n hJ dX0_putSum_75 rfl ?_
        refine j_iload_n hJ dX0_putSum_76 rfl ?_
        refine j_iload hJ dX0_putSum_77 rfl ?_
        refine j_callV hJ (kX0_keepResult l D cI cO a _ _ _ h0 hX.1.1) rfl gX0_putSum_X0_keepResult rfl hdX0_keepResult rfl ⟨Nat.le_of_ble_eq_true rfl, Nat.le_of_ble_eq_true rfl⟩ (Nat.le_of_ble_eq_true rfl) (Nat.le_of_ble_eq_true rfl) rfl rfl dX0_putSum_79 (fun _ _ h => False.elim h) (fun r79 Z79 hp79 => ?_)
        obtain ⟨rfl, rfl⟩ := hp79
        exact j_vret hJ (Nat.le_of_ble_eq_true rfl) (⟨rfl, keep_XI2 hI hf h512 h0 (by rw [hv]; omega) (by omega)⟩) dX0_putSum_82
    · refine j_aload_n hJ dX0_putSum_34 rfl ?_
      refine j_iload_n hJ dX0_putSum_35 rfl ?_
      refine j_iload_n hJ dX0_putSum_36 rfl ?_
      refine j_callV hJ (kX0_addSizes l D cI cO a _ _ hI _ _ h1 h2) rfl gX0_putSum_X0_addSizes rfl hdX0_addSizes rfl ⟨Nat.le_of_ble_eq_true rfl, Nat.le_of_ble_eq_true rfl⟩ (Nat.le_of_ble_eq_true rfl) (Nat.le_of_ble_eq_true rfl) rfl rfl dX0_putSum_37 (fun _ _ h => False.elim h) (fun r37 Z37 hp37 => ?_)
      obtain ⟨rfl, f, rfl, hf, hv⟩ := hp37
      have hX := res_XI hI hf
      have hf2 : zrw Z 2 513 f 2 512 = f 512 := zrw_in (by omega)
      refine j_aload_n hJ dX0_putSum_40 rfl ?_
      refine j_callV hJ (kX0_checkResultFits l D cI cO a _ hl0 hX.1.1) rfl gX0_putSum_X0_checkResultFits rfl hdX0_checkResultFits rfl ⟨Nat.le_of_ble_eq_true rfl, Nat.le_of_ble_eq_true rfl⟩ (Nat.le_of_ble_eq_true rfl) (Nat.le_of_ble_eq_true rfl) rfl rfl dX0_putSum_41 (fun E Z' h => (by obtain ⟨rfl, hne, rfl⟩ := h; rw [hf2] at hne; have := fits_not hf hne; exact ⟨hX, Or.inr ⟨by rw [lim_n (by omega)], rfl⟩⟩)) (fun r41 Z41 hp41 => ?_)
      obtain ⟨rfl, h512, rfl⟩ := hp41
      rw [hf2] at h512
      refine j_goto (tgt := 75) hJ (by decide) dX0_putSum_44 ?_
      refine j_aload_n hJ dX0_putSum_75 rfl ?_
      refine j_iload_n hJ dX0_putSum_76 rfl ?_
      refine j_iload hJ dX0_putSum_77 rfl ?_
      refine j_callV hJ (kX0_keepResult l D cI cO a _ _ _ h0 hX.1.1) rfl gX0_putSum_X0_keepResult rfl hdX0_keepResult rfl ⟨Nat.le_of_ble_eq_true rfl, Nat.le_of_ble_eq_true rfl⟩ (Nat.le_of_ble_eq_true rfl) (Nat.le_of_ble_eq_true rfl) rfl rfl dX0_putSum_79 (fun _ _ h => False.elim h) (fun r79 Z79 hp79 => ?_)
      obtain ⟨rfl, rfl⟩ := hp79
      exact j_vret hJ (Nat.le_of_ble_eq_true rfl) (⟨rfl, keep_XI2 hI hf h512 h0 (by rw [hv]; omega) (by omega)⟩) dX0_putSum_82
set_option maxRecDepth 20000 in
theorem kX0_add (hl0 : l.stackTraces = false) (g : Nat → Int) (hI : XI Z g) (r i j : Int) (h0 : i32 r) (h1 : i32 i) (h2 : i32 j) : Ct l D (tX cI cO) (wX cI cO a) yX0_add wsX0_add 8 4 145 [.ref (a 0), .int (iZ r), .int (iZ i), .int (iZ j)] Z (fun v Z' => v = none ∧ (oAdd g r i j).1 = 0 ∧ XI Z' (oAdd g r i j).2) (pT g (oAdd g r i j).1 eS) := by
  refine Ct.of (cc := cX0_add) (maxL := 4) (ret := none) rfl (by decide) rfl (Nat.le_of_ble_eq_true rfl) (fun J hJ => ?_)
  have hin : ∀ w ∈ u_ws RX0 TX0 6, w ∈ wsX0_add := by decide +kernel
  refine j_iload_n hJ dX0_add_0 rfl ?_
  refine j_callS hJ (kX0_checkRegister l D hl0 _ ⟨by omega, by omega⟩) rfl gX0_add_X0_checkRegister rfl hsX0_checkRegister rfl ⟨Nat.le_of_ble_eq_true rfl, Nat.le_of_ble_eq_true rfl⟩ (Nat.le_of_ble_eq_true rfl) (Nat.le_of_ble_eq_true rfl) dX0_add_1 (fun E h => ⟨hI, Or.inl ⟨by rw [oAdd_n (fun q => h.2 q.1)], h.1⟩⟩) (fun r1 hp1 => ?_)
  obtain ⟨rfl, hr1⟩ := hp1
  refine j_iload_n hJ dX0_add_4 rfl ?_
  refine j_callS hJ (kX0_checkRegister l D hl0 _ ⟨by omega, by omega⟩) rfl gX0_add_X0_checkRegister rfl hsX0_checkRegister rfl ⟨Nat.le_of_ble_eq_true rfl, Nat.le_of_ble_eq_true rfl⟩ (Nat.le_of_ble_eq_true rfl) (Nat.le_of_ble_eq_true rfl) dX0_add_5 (fun E h => ⟨hI, Or.inl ⟨by rw [oAdd_n (fun q => h.2 q.2.1)], h.1⟩⟩) (fun r5 hp5 => ?_)
  obtain ⟨rfl, hr5⟩ := hp5
  refine j_iload_n hJ dX0_add_8 rfl ?_
  refine j_callS hJ (kX0_checkRegister l D hl0 _ ⟨by omega, by omega⟩) rfl gX0_add_X0_checkRegister rfl hsX0_checkRegister rfl ⟨Nat.le_of_ble_eq_true rfl, Nat.le_of_ble_eq_true rfl⟩ (Nat.le_of_ble_eq_true rfl) (Nat.le_of_ble_eq_true rfl) dX0_add_9 (fun E h => ⟨hI, Or.inl ⟨by rw [oAdd_n (fun q => h.2 q.2.2)], h.1⟩⟩) (fun r9 hp9 => ?_)
  obtain ⟨rfl, hr9⟩ := hp9
  refine j_aload_n hJ dX0_add_12 rfl ?_
  refine j_iload_n hJ dX0_add_13 rfl ?_
  refine j_iload_n hJ dX0_add_14 rfl ?_
  refine j_iload_n hJ dX0_add_15 rfl ?_
  refine j_aload_n hJ dX0_add_16 rfl ?_
  refine x_signs hJ hin (by decide +kernel) dX0_add_17 ?_
  refine j_iload_n hJ dX0_add_20 rfl ?_
  refine x_ald_s hJ ⟨by omega, by omega⟩ dX0_add_21 ?_
  rw [(hI.2 j.toNat (by omega)).2.2.1]
  refine j_callV hJ (kX0_putSum l D cI cO a Z hl0 g hI r i j (g j.toNat) hr1 hr5 hr9 rfl) rfl gX0_add_X0_putSum rfl hdX0_putSum rfl ⟨Nat.le_of_ble_eq_true rfl, Nat.le_of_ble_eq_true rfl⟩ (Nat.le_of_ble_eq_true rfl) (Nat.le_of_ble_eq_true rfl) rfl rfl dX0_add_22 (fun E Z' h => by rw [oAdd_y ⟨hr1, hr5, hr9⟩]; exact h) (fun r22 Z22 hp22 => ?_)
  obtain ⟨rfl, p1, p2⟩ := hp22
  exact j_vret hJ (Nat.le_of_ble_eq_true rfl) (by rw [oAdd_y ⟨hr1, hr5, hr9⟩]; exact ⟨rfl, p1, p2⟩) dX0_add_25
set_option maxRecDepth 20000 in
theorem kX0_subtract (hl0 : l.stackTraces = false) (g : Nat → Int) (hI : XI Z g) (r i j : Int) (h0 : i32 r) (h1 : i32 i) (h2 : i32 j) : Ct l D (tX cI cO) (wX cI cO a) yX0_subtract wsX0_subtract 8 4 145 [.ref (a 0), .int (iZ r), .int (iZ i), .int (iZ j)] Z (fun v Z' => v = none ∧ (oSub g r i j).1 = 0 ∧ XI Z' (oSub g r i j).2) (pT g (oSub g r i j).1 eS) := by
  refine Ct.of (cc := cX0_subtract) (maxL := 4) (ret := none) rfl (by decide) rfl (Nat.le_of_ble_eq_true rfl) (fun J hJ => ?_)
  have hin : ∀ w ∈ u_ws RX0 TX0 6, w ∈ wsX0_subtract := by decide +kernel
  refine j_iload_n hJ dX0_subtract_0 rfl ?_
  refine j_callS hJ (kX0_checkRegister l D hl0 _ ⟨by omega, by omega⟩) rfl gX0_subtract_X0_checkRegister rfl hsX0_checkRegister rfl ⟨Nat.le_of_ble_eq_true rfl, Nat.le_of_ble_eq_true rfl⟩ (Nat.le_of_ble_eq_true rfl) (Nat.le_of_ble_eq_true rfl) dX0_subtract_1 (fun E h => ⟨hI, Or.inl ⟨by rw [oSub_n (fun q => h.2 q.1)], h.1⟩⟩) (fun r1 hp1 => ?_)
  obtain ⟨rfl, hr1⟩ := hp1
  refine j_iload_n hJ dX0_subtract_4 rfl ?_
  refine j_callS hJ (kX0_checkRegister l D hl0 _ ⟨by omega, by omega⟩) rfl gX0_subtract_X0_checkRegister rfl hsX0_checkRegister rfl ⟨Nat.le_of_ble_eq_true rfl, Nat.le_of_ble_eq_true rfl⟩ (Nat.le_of_ble_eq_true rfl) (Nat.le_of_ble_eq_true rfl) dX0_subtract_5 (fun E h => ⟨hI, Or.inl ⟨by rw [oSub_n (fun q => h.2 q.2.1)], h.1⟩⟩) (fun r5 hp5 => ?_)
  obtain ⟨rfl, hr5⟩ := hp5
  refine j_iload_n hJ dX0_subtract_8 rfl ?_
  refine j_callS hJ (kX0_checkRegister l D hl0 _ ⟨by omega, by omega⟩) rfl gX0_subtract_X0_checkRegister rfl hsX0_checkRegister rfl ⟨Nat.le_of_ble_eq_true rfl, Nat.le_of_ble_eq_true rfl⟩ (Nat.le_of_ble_eq_true rfl) (Nat.le_of_ble_eq_true rfl) dX0_subtract_9 (fun E h => ⟨hI, Or.inl ⟨by rw [oSub_n (fun q => h.2 q.2.2)], h.1⟩⟩) (fun r9 hp9 => ?_)
  obtain ⟨rfl, hr9⟩ := hp9
  refine j_aload_n hJ dX0_subtract_12 rfl ?_
  refine j_iload_n hJ dX0_subtract_13 rfl ?_
  refine j_iload_n hJ dX0_subtract_14 rfl ?_
  refine j_iload_n hJ dX0_subtract_15 rfl ?_
  refine j_aload_n hJ dX0_subtract_16 rfl ?_
  refine x_signs hJ hin (by decide +kernel) dX0_subtract_17 ?_
  refine j_iload_n hJ dX0_subtract_20 rfl ?_
  refine x_ald_s hJ ⟨by omega, by omega⟩ dX0_subtract_21 ?_
  refine j_ineg hJ dX0_subtract_22 ?_
  rw [(hI.2 j.toNat (by omega)).2.2.1, ← Int.sign_neg]
  refine j_callV hJ (kX0_putSum l D cI cO a Z hl0 g hI r i j (- g j.toNat) hr1 hr5 hr9 (by rw [Int.natAbs_neg])) rfl gX0_subtract_X0_putSum rfl hdX0_putSum rfl ⟨Nat.le_of_ble_eq_true rfl, Nat.le_of_ble_eq_true rfl⟩ (Nat.le_of_ble_eq_true rfl) (Nat.le_of_ble_eq_true rfl) rfl rfl dX0_subtract_23 (fun E Z' h => by rw [oSub_y ⟨hr1, hr5, hr9⟩, Int.sub_eq_add_neg]; exact h) (fun r23 Z23 hp23 => ?_)
  obtain ⟨rfl, p1, p2⟩ := hp23
  exact j_vret hJ (Nat.le_of_ble_eq_true rfl) (by rw [oSub_y ⟨hr1, hr5, hr9⟩, Int.sub_eq_add_neg]; exact ⟨rfl, p1, p2⟩) dX0_subtract_26
set_option maxRecDepth 20000 in
theorem kX0_multiply (hl0 : l.stackTraces = false) (g : Nat → Int) (hI : XI Z g) (r i j : Int) (h0 : i32 r) (h1 : i32 i) (h2 : i32 j) : Ct l D (tX cI cO) (wX cI cO a) yX0_multiply wsX0_multiply 7 5 120 [.ref (a 0), .int (iZ r), .int (iZ i), .int (iZ j)] Z (fun v Z' => v = none ∧ (oMul g r i j).1 = 0 ∧ XI Z' (oMul g r i j).2) (pT g (oMul g r i j).1 eS) := by
  refine Ct.of (cc := cX0_multiply) (maxL := 4) (ret := none) rfl (by decide) rfl (Nat.le_of_ble_eq_true rfl) (fun J hJ => ?_)
  have hin : ∀ w ∈ u_ws RX0 TX0 6, w ∈ wsX0_multiply := by decide +kernel
  have nab : ((g i.toNat * g j.toNat).natAbs : Int) = ((g i.toNat).natAbs : Int) * ((g j.toNat).natAbs : Int) := by rw [Int.natAbs_mul, Int.natCast_mul]
  have sgm : (g i.toNat * g j.toNat).sign = (g i.toNat).sign * (g j.toNat).sign := Int.sign_mul _ _
  have big : isRg i → isRg j → 514 ≤ lenr (Z (i.toNat + 5)) 512 + lenr (Z (j.toNat + 5)) 512 → LIM ≤ ((g i.toNat * g j.toNat).natAbs : Int) := by
    intro q1 q2 q3
    obtain ⟨d1, v1, _, c1⟩ := hI.2 i.toNat (by omega)
    obtain ⟨d2, v2, _, c2⟩ := hI.2 j.toNat (by omega)
    have l1 := lenr_le (Z (i.toNat + 5)) 512
    have l2 := lenr_le (Z (j.toNat + 5)) 512
    have g1 := lenr_ge (B := 4294967296) (by decide) d1 (by omega)
    have g2 := lenr_ge (B := 4294967296) (by decide) d2 (by omega)
    rw [nab, ← v1, ← v2, LIM_X]
    have p1 := Int.mul_le_mul g1 g2 (Int.le_of_lt (pw_pos (by decide) _)) (Int.le_trans (Int.le_of_lt (pw_pos (by decide) _)) g1)
    rw [← Int.pow_add] at p1
    have p2 : (4294967296 : Int) ^ 512 ≤ 4294967296 ^ (lenr (Z (i.toNat + 5)) 512 - 1 + (lenr (Z (j.toNat + 5)) 512 - 1)) := pw_mono (by decide) (by omega)
    omega
  refine j_iload_n hJ dX0_multiply_0 rfl ?_
  refine j_callS hJ (kX0_checkRegister l D hl0 _ ⟨by omega, by omega⟩) rfl gX0_multiply_X0_checkRegister rfl hsX0_checkRegister rfl ⟨Nat.le_of_ble_eq_true rfl, Nat.le_of_ble_eq_true rfl⟩ (Nat.le_of_ble_eq_true rfl) (Nat.le_of_ble_eq_true rfl) dX0_multiply_1 (fun E h => ⟨hI, Or.inl ⟨by rw [oMul_n (fun q => h.2 q.1)], h.1⟩⟩) (fun r1 hp1 => ?_)
  obtain ⟨rfl, hr1⟩ := hp1
  refine j_iload_n hJ dX0_multiply_4 rfl ?_
  refine j_callS hJ (kX0_checkRegister l D hl0 _ ⟨by omega, by omega⟩) rfl gX0_multiply_X0_checkRegister rfl hsX0_checkRegister rfl ⟨Nat.le_of_ble_eq_true rfl, Nat.le_of_ble_eq_true rfl⟩ (Nat.le_of_ble_eq_true rfl) (Nat.le_of_ble_eq_true rfl) dX0_multiply_5 (fun E h => ⟨hI, Or.inl ⟨by rw [oMul_n (fun q => h.2 q.2.1)], h.1⟩⟩) (fun r5 hp5 => ?_)
  obtain ⟨rfl, hr5⟩ := hp5
  refine j_iload_n hJ dX0_multiply_8 rfl ?_
  refine j_callS hJ (kX0_checkRegister l D hl0 _ ⟨by omega, by omega⟩) rfl gX0_multiply_X0_checkRegister rfl hsX0_checkRegister rfl ⟨Nat.le_of_ble_eq_true rfl, Nat.le_of_ble_eq_true rfl⟩ (Nat.le_of_ble_eq_true rfl) (Nat.le_of_ble_eq_true rfl) dX0_multiply_9 (fun E h => ⟨hI, Or.inl ⟨by rw [oMul_n (fun q => h.2 q.2.2)], h.1⟩⟩) (fun r9 hp9 => ?_)
  obtain ⟨rfl, hr9⟩ := hp9
  have l1 := lenr_le (Z (i.toNat + 5)) 512
  have l2 := lenr_le (Z (j.toNat + 5)) 512
  refine j_aload_n hJ dX0_multiply_12 rfl ?_
  refine x_counts hJ hin (by decide +kernel) dX0_multiply_13 ?_
  refine j_iload_n hJ dX0_multiply_16 rfl ?_
  refine x_ald_c hJ ⟨by omega, by omega⟩ dX0_multiply_17 ?_
  rw [(hI.2 i.toNat (by omega)).2.2.2]
  refine j_aload_n hJ dX0_multiply_18 rfl ?_
  refine x_counts hJ hin (by decide +kernel) dX0_multiply_19 ?_
  refine j_iload_n hJ dX0_multiply_22 rfl ?_
  refine x_ald_c hJ ⟨by omega, by omega⟩ dX0_multiply_23 ?_
  rw [(hI.2 j.toNat (by omega)).2.2.2]
  refine j_iadd hJ dX0_multiply_24 ?_
  refine j_sipush hJ (by decide) dX0_multiply_25 ?_
  refine j_icmp_le (tgt := 41) hJ (by decide) ⟨by omega, by omega⟩ ⟨by omega, by omega⟩ dX0_multiply_28 (fun h28 => ?_) (fun h28 => ?_)
  · refine j_aload_n hJ dX0_multiply_41 rfl ?_
    refine j_iload_n hJ dX0_multiply_42 rfl ?_
    refine j_iload_n hJ dX0_multiply_43 rfl ?_
    refine j_callV hJ (kX0_multiplySizes l D cI cO a _ _ hI _ _ hr5 hr9 (by omega)) rfl gX0_multiply_X0_multiplySizes rfl hdX0_multiplySizes rfl ⟨Nat.le_of_ble_eq_true rfl, Nat.le_of_ble_eq_true rfl⟩ (Nat.le_of_ble_eq_true rfl) (Nat.le_of_ble_eq_true rfl) rfl rfl dX0_multiply_44 (fun _ _ h => False.elim h) (fun r44 Z44 hp44 => ?_)
    obtain ⟨rfl, f, rfl, hf, hv⟩ := hp44
    have hX := res_XI hI hf
    have hf2 : zrw Z 2 513 f 2 512 = f 512 := zrw_in (by omega)
    refine j_aload_n hJ dX0_multiply_47 rfl ?_
    refine j_callV hJ (kX0_checkResultFits l D cI cO a _ hl0 hX.1.1) rfl gX0_multiply_X0_checkResultFits rfl hdX0_checkResultFits rfl ⟨Nat.le_of_ble_eq_true rfl, Nat.le_of_ble_eq_true rfl⟩ (Nat.le_of_ble_eq_true rfl) (Nat.le_of_ble_eq_true rfl) rfl rfl dX0_multiply_48 (fun E Z' h => (by obtain ⟨rfl, hne, rfl⟩ := h; rw [hf2] at hne; have := fits_not hf hne; exact ⟨hX, Or.inr ⟨by rw [oMul_y ⟨hr1, hr5, hr9⟩, lim_n (by rw [nab, ← hv]; exact this)], rfl⟩⟩)) (fun r48 Z48 hp48 => ?_)
    obtain ⟨rfl, h512, rfl⟩ := hp48
    rw [hf2] at h512
    refine j_aload_n hJ dX0_multiply_51 rfl ?_
    refine j_iload_n hJ dX0_multiply_52 rfl ?_
    refine j_aload_n hJ dX0_multiply_53 rfl ?_
    refine x_signs hJ hin (by decide +kernel) dX0_multiply_54 ?_
    refine j_iload_n hJ dX0_multiply_57 rfl ?_
    refine x_ald_s hJ ⟨by omega, by omega⟩ dX0_multiply_58 ?_
    refine j_aload_n hJ dX0_multiply_59 rfl ?_
    refine x_signs hJ hin (by decide +kernel) dX0_multiply_60 ?_
    refine j_iload_n hJ dX0_multiply_63 rfl ?_
    refine x_ald_s hJ ⟨by omega, by omega⟩ dX0_multiply_64 ?_
    rw [zrw_off (j' := 1) (by omega), (hI.2 i.toNat (by omega)).2.2.1, (hI.2 j.toNat (by omega)).2.2.1]
    refine j_imul hJ dX0_multiply_65 ?_
    refine j_callV hJ (kX0_keepResult l D cI cO a _ _ _ hr1 hX.1.1) rfl gX0_multiply_X0_keepResult rfl hdX0_keepResult rfl ⟨Nat.le_of_ble_eq_true rfl, Nat.le_of_ble_eq_true rfl⟩ (Nat.le_of_ble_eq_true rfl) (Nat.le_of_ble_eq_true rfl) rfl rfl dX0_multiply_66 (fun _ _ h => False.elim h) (fun r66 Z66 hp66 => ?_)
    obtain ⟨rfl, rfl⟩ := hp66
    exact j_vret hJ (Nat.le_of_ble_eq_true rfl) (by rw [oMul_y ⟨hr1, hr5, hr9⟩]; exact ⟨rfl, keep_XI2 hI hf h512 hr1 (by rw [hv, nab]) (fun _ => sgm.symm)⟩) dX0_multiply_69
  · exact x_throw_ise (text := "the number is too long") hJ hl0 (by decide +kernel) (by decide +kernel) (by decide +kernel) (by decide +kernel) dX0_multiply_31 dX0_multiply_34 dX0_multiply_35 dX0_multiply_37 dX0_multiply_40 (Nat.le_of_ble_eq_true rfl) (Nat.le_of_ble_eq_true rfl) (Nat.le_of_ble_eq_true rfl) (⟨hI, Or.inr ⟨by rw [oMul_y ⟨hr1, hr5, hr9⟩, lim_n (big hr5 hr9 (by omega))], rfl⟩⟩)
end X6
