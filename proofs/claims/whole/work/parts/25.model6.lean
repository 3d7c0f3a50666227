theorem isR_spec (r : Int) : (0 ≤ r ∧ r < 12 ∧ isR r = 1) ∨ ((r < 0 ∨ 12 ≤ r) ∧ isR r = 0) := by
  unfold isR
  by_cases h : 0 ≤ r ∧ r < 12
  · exact Or.inl ⟨h.1, h.2, if_pos h⟩
  · exact Or.inr ⟨by omega, if_neg h⟩
theorem give_MI {Z Z' : ZZ} {g : Nat → Int} {r : Int} (h : MI Z g) (hr : isRg r) {z : Int} (hz : vs 65536 (Z 14) 2100 = (z.natAbs : Int)) (hs : z ≠ 0 → Z 1 12 = z.sign) (hc : Z 0 0 = 0)
    (hp : (65536 ^ 1024 ≤ vs 65536 (Z 14) 2100 ∧ Z' = zup Z 0 0 2) ∨ (vs 65536 (Z 14) 2100 < 65536 ^ 1024 ∧ vs 65536 (Z 14) 2100 = 0 ∧ Z' = mmov (zup Z 1 12 0) r.toNat 12) ∨ (vs 65536 (Z 14) 2100 < 65536 ^ 1024 ∧ vs 65536 (Z 14) 2100 ≠ 0 ∧ Z' = mmov Z r.toNat 12)) :
    Z' 0 0 = (lim g r z).1 ∧ MI Z' (lim g r z).2 := by
  have hl : (65536 : Int) ^ 1024 = LIM := rfl
  rw [hl, hz] at hp
  have hrr : r.toNat < 12 := by have := hr.2; omega
  unfold lim
  rcases hp with ⟨h1, rfl⟩ | ⟨h1, h2, rfl⟩ | ⟨h1, h2, rfl⟩
  · rw [if_neg (by omega)]
    exact ⟨zup_eq _ _ _ _, h.code 2⟩
  · rw [if_pos h1]
    have hz0 : z = 0 := by omega
    refine ⟨?_, ?_⟩
    · show zup _ 1 _ _ 0 0 = 0
      rw [zup_ne (by omega), zrw_off (by omega), zup_ne (by omega)]; exact hc
    · refine MI.reg (h.sgn (j := 12) (by omega) 0) hrr (z := z) ?_ ?_ ?_ h1
      · rw [zup_off Z 1 12 0 (j' := 12 + 2) (by omega)]; exact h.1 12 (by omega)
      · rw [zup_off Z 1 12 0 (j' := 12 + 2) (by omega)]; exact hz
      · rw [zup_eq, hz0]; rfl
  · rw [if_pos h1]
    refine ⟨?_, ?_⟩
    · show zup _ 1 _ _ 0 0 = 0
      rw [zup_ne (by omega), zrw_off (by omega)]; exact hc
    · exact MI.reg h hrr (z := z) (h.1 12 (by omega)) hz (hs (by omega)) h1
section M6
variable (l : Launch) (D : va_G) (cI : ClassId) (a : Nat → Nat) (Z : ZZ)
def mtk (Z : ZZ) (i j : Nat) : ZZ := mclr (mmov (mmov (zup Z 0 0 0) 14 i) 15 j) 12
theorem mclr_row {Z : ZZ} {r k : Nat} (hk : k < 2100) : mclr Z r (r + 2) k = 0 := by
  unfold mclr; rw [zup_ne (by omega), zrw_in hk]
theorem mclr_off {Z : ZZ} {r j : Nat} (h1 : j ≠ r + 2) (h2 : j ≠ 1) : mclr Z r j = Z j := by
  unfold mclr; rw [zup_off _ 1 _ _ h2, zrw_off h1]
theorem mclr_sg {Z : ZZ} {r : Nat} : mclr Z r 1 r = 0 := zup_eq _ _ _ _
theorem mclr_sgo {Z : ZZ} {r i : Nat} (h : i ≠ r) : mclr Z r 1 i = Z 1 i := by
  unfold mclr; rw [zup_ne (by omega), zrw_off (by omega)]
theorem mmov_row {Z : ZZ} {r r2 k : Nat} (hk : k < 2100) : mmov Z r r2 (r + 2) k = Z (r2 + 2) k := by
  unfold mmov; rw [zup_ne (by omega), zrw_in hk]
theorem mmov_off {Z : ZZ} {r r2 j : Nat} (h1 : j ≠ r + 2) (h2 : j ≠ 1) : mmov Z r r2 j = Z j := by
  unfold mmov; rw [zup_off _ 1 _ _ h2, zrw_off h1]
theorem mmov_sg {Z : ZZ} {r r2 : Nat} : mmov Z r r2 1 r = Z 1 r2 := zup_eq _ _ _ _
theorem mmov_sgo {Z : ZZ} {r r2 i : Nat} (h : i ≠ r) : mmov Z r r2 1 i = Z 1 i := by
  unfold mmov; rw [zup_ne (by omega), zrw_off (by omega)]
theorem mtk_MI {Z : ZZ} {g : Nat → Int} (h : MI Z g) {i j : Nat} (hi : i < 12) (hj : j < 12) : MI (mtk Z i j) g ∧ mtk Z i j 0 0 = 0 ∧ (∀ k, k < 2100 → mtk Z i j 16 k = Z (i + 2) k) ∧ mtk Z i j 1 14 = Z 1 i ∧ (∀ k, k < 2100 → mtk Z i j 17 k = Z (j + 2) k) ∧ mtk Z i j 1 15 = Z 1 j ∧ (∀ k, k < 2100 → mtk Z i j 14 k = 0) := by
  have h1 := (h.code 0).mov (j := 14) (i := i) (by omega) (by omega)
  have h2 := h1.mov (j := 15) (i := j) (by omega) (by omega)
  have h3 := (h2.row (j := 12) (n := 2100) (f := fun _ => 0) (by omega) (fun i hi => ⟨by show (0 : Int) ≤ 0; omega, by show (0 : Int) < 65536; omega⟩)).sgn (j := 12) (by omega) 0
  refine ⟨h3, ?_, fun k hk => ?_, ?_, fun k hk => ?_, ?_, fun k hk => ?_⟩ <;> unfold mtk
  · rw [mclr_off (by omega) (by omega), mmov_off (by omega) (by omega), mmov_off (by omega) (by omega), zup_eq]
  · rw [mclr_off (by omega) (by omega), mmov_off (by omega) (by omega), mmov_row hk, zup_off _ 0 _ _ (by omega)]
  · rw [mclr_sgo (by omega), mmov_sgo (by omega), mmov_sg, zup_off _ 0 _ _ (by omega)]
  · rw [mclr_off (by omega) (by omega), mmov_row hk, mmov_off (by omega) (by omega), zup_off _ 0 _ _ (by omega)]
  · rw [mclr_sgo (by omega), mmov_sg, mmov_sgo (by omega), zup_off _ 0 _ _ (by omega)]
  · exact mclr_row hk
set_option maxRecDepth 20000 in
theorem kX1_take (r i j : Int) (h0 : i32 r) (h1 : i32 i) (h2 : i32 j) : Ct l D (tM cI) (wM cI a) yX1_take wsX1_take 2 0 46 [.ref (a 0), .int (iZ r), .int (iZ i), .int (iZ j)] Z (fun v Z' => (¬ (isRg r ∧ isRg i ∧ isRg j) ∧ v = some (.int (iZ 0)) ∧ Z' = zup Z 0 0 1) ∨ ((isRg r ∧ isRg i ∧ isRg j) ∧ v = some (.int (iZ 1)) ∧ Z' = mtk Z i.toNat j.toNat)) nX := by
  refine Ct.of (cc := cX1_take) (maxL := 4) (ret := some .boolean) rfl (by decide) rfl (Nat.le_of_ble_eq_true rfl) (fun J hJ => ?_)
  have hin : ∀ w ∈ u_ws RX1 TX1 3, w ∈ wsX1_take := by decide +kernel
  have p0 := isR_spec r
  have p1 := isR_spec i
  have p2 := isR_spec j
  refine j_aload_n hJ dX1_take_0 rfl ?_
  refine j_iload_n hJ dX1_take_1 rfl ?_
  refine j_callS hJ (kX1_isRegister l D _ ⟨by omega, by omega⟩) rfl gX1_take_X1_isRegister rfl hsX1_isRegister rfl ⟨Nat.le_of_ble_eq_true rfl, Nat.le_of_ble_eq_true rfl⟩ (Nat.le_of_ble_eq_true rfl) (Nat.le_of_ble_eq_true rfl) dX1_take_2 (fun _ h => False.elim h) (fun r2 hp2 => ?_)
  subst hp2
  refine j_if_eq (tgt := 26) hJ (by decide) ⟨by omega, by omega⟩ dX1_take_5 (fun h5 => ?_) (fun h5 => ?_)
  · refine j_iconst hJ dX1_take_26 ?_
    refine m_putcode hJ hin (by decide +kernel) dX1_take_27 ?_
    refine j_aload_n hJ dX1_take_30 rfl ?_
    refine m_code hJ hin (by decide +kernel) dX1_take_31 ?_
    rw [zup_eq]
    refine j_if_le (tgt := 39) hJ (by decide) ⟨by omega, by omega⟩ dX1_take_34 (fun h34 => absurd h34 (by decide)) (fun h34 => ?_)
    refine j_iconst hJ dX1_take_37 ?_
    exact j_zret hJ (by decide) (Nat.le_of_ble_eq_true rfl) (Or.inl ⟨by omega, rfl, rfl⟩) dX1_take_38
  · refine j_iload_n hJ dX1_take_8 rfl ?_
    refine j_callS hJ (kX1_isRegister l D _ ⟨by omega, by omega⟩) rfl gX1_take_X1_isRegister rfl hsX1_isRegister rfl ⟨Nat.le_of_ble_eq_true rfl, Nat.le_of_ble_eq_true rfl⟩ (Nat.le_of_ble_eq_true rfl) (Nat.le_of_ble_eq_true rfl) dX1_take_9 (fun _ h => False.elim h) (fun r9 hp9 => ?_)
    subst hp9
    refine j_if_eq (tgt := 26) hJ (by decide) ⟨by omega, by omega⟩ dX1_take_12 (fun h12 => ?_) (fun h12 => ?_)
    · refine j_iconst hJ dX1_take_26 ?_
      refine m_putcode hJ hin (by decide +kernel) dX1_take_27 ?_
      refine j_aload_n hJ dX1_take_30 rfl ?_
      refine m_code hJ hin (by decide +kernel) dX1_take_31 ?_
      rw [zup_eq]
      refine j_if_le (tgt := 39) hJ (by decide) ⟨by omega, by omega⟩ dX1_take_34 (fun h34 => absurd h34 (by decide)) (fun h34 => ?_)
      refine j_iconst hJ dX1_take_37 ?_
      exact j_zret hJ (by decide) (Nat.le_of_ble_eq_true rfl) (Or.inl ⟨by omega, rfl, rfl⟩) dX1_take_38
    · refine j_iload_n hJ dX1_take_15 rfl ?_
      refine j_callS hJ (kX1_isRegister l D _ ⟨by omega, by omega⟩) rfl gX1_take_X1_isRegister rfl hsX1_isRegister rfl ⟨Nat.le_of_ble_eq_true rfl, Nat.le_of_ble_eq_true rfl⟩ (Nat.le_of_ble_eq_true rfl) (Nat.le_of_ble_eq_true rfl) dX1_take_16 (fun _ h => False.elim h) (fun r16 hp16 => ?_)
      subst hp16
      refine j_if_eq (tgt := 26) hJ (by decide) ⟨by omega, by omega⟩ dX1_take_19 (fun h19 => ?_) (fun h19 => ?_)
      · refine j_iconst hJ dX1_take_26 ?_
        refine m_putcode hJ hin (by decide +kernel) dX1_take_27 ?_
        refine j_aload_n hJ dX1_take_30 rfl ?_
        refine m_code hJ hin (by decide +kernel) dX1_take_31 ?_
        rw [zup_eq]
        refine j_if_le (tgt := 39) hJ (by decide) ⟨by omega, by omega⟩ dX1_take_34 (fun h34 => absurd h34 (by decide)) (fun h34 => ?_)
        refine j_iconst hJ dX1_take_37 ?_
        exact j_zret hJ (by decide) (Nat.le_of_ble_eq_true rfl) (Or.inl ⟨by omega, rfl, rfl⟩) dX1_take_38
      · refine j_iconst hJ dX1_take_22 ?_
        refine j_goto (tgt := 27) hJ (by decide) dX1_take_23 ?_
        refine m_putcode hJ hin (by decide +kernel) dX1_take_27 ?_
        refine j_aload_n hJ dX1_take_30 rfl ?_
        refine m_code hJ hin (by decide +kernel) dX1_take_31 ?_
        rw [zup_eq]
        refine j_if_le (tgt := 39) hJ (by decide) ⟨by omega, by omega⟩ dX1_take_34 (fun h34 => ?_) (fun h34 => absurd h34 (by decide))
        refine j_aload_n hJ dX1_take_39 rfl ?_
        refine j_bipush hJ (by decide) dX1_take_40 ?_
        refine j_iload_n hJ dX1_take_42 rfl ?_
        refine j_callV hJ (kX1_move l D cI a _ _ _ ⟨by omega, by omega⟩ ⟨by omega, by omega⟩) rfl gX1_take_X1_move rfl hdX1_move rfl ⟨Nat.le_of_ble_eq_true rfl, Nat.le_of_ble_eq_true rfl⟩ (Nat.le_of_ble_eq_true rfl) (Nat.le_of_ble_eq_true rfl) rfl rfl dX1_take_43 (fun _ _ h => False.elim h) (fun r43 Z43 hp43 => ?_)
        obtain ⟨rfl, rfl⟩ := hp43
        refine j_aload_n hJ dX1_take_46 rfl ?_
        refine j_bipush hJ (by decide) dX1_take_47 ?_
        refine j_iload_n hJ dX1_take_49 rfl ?_
        refine j_callV hJ (kX1_move l D cI a _ _ _ ⟨by omega, by omega⟩ ⟨by omega, by omega⟩) rfl gX1_take_X1_move rfl hdX1_move rfl ⟨Nat.le_of_ble_eq_true rfl, Nat.le_of_ble_eq_true rfl⟩ (Nat.le_of_ble_eq_true rfl) (Nat.le_of_ble_eq_true rfl) rfl rfl dX1_take_50 (fun _ _ h => False.elim h) (fun r50 Z50 hp50 => ?_)
        obtain ⟨rfl, rfl⟩ := hp50
        refine j_aload_n hJ dX1_take_53 rfl ?_
        refine j_bipush hJ (by decide) dX1_take_54 ?_
        refine j_callV hJ (kX1_clear l D cI a _ _ ⟨by omega, by omega⟩) rfl gX1_take_X1_clear rfl hdX1_clear rfl ⟨Nat.le_of_ble_eq_true rfl, Nat.le_of_ble_eq_true rfl⟩ (Nat.le_of_ble_eq_true rfl) (Nat.le_of_ble_eq_true rfl) rfl rfl dX1_take_56 (fun _ _ h => False.elim h) (fun r56 Z56 hp56 => ?_)
        obtain ⟨rfl, rfl⟩ := hp56
        refine j_iconst hJ dX1_take_59 ?_
        exact j_zret hJ (by decide) (Nat.le_of_ble_eq_true rfl) (Or.inr ⟨⟨⟨by omega, by omega⟩, ⟨by omega, by omega⟩, ⟨by omega, by omega⟩⟩, rfl, rfl⟩) dX1_take_60
/-- the two sides of a sum behind take -/
theorem mtk_two {Z : ZZ} {g : Nat → Int} (h : MI Z g) {i j : Nat} (hi : i < 12) (hj : j < 12) : dgs 65536 2100 (mtk Z i j 16) ∧ dgs 65536 2100 (mtk Z i j 17) ∧ vs 65536 (mtk Z i j 16) 2100 = ((g i).natAbs : Int) ∧ vs 65536 (mtk Z i j 17) 2100 = ((g j).natAbs : Int) := by
  obtain ⟨m1, m2, m3, m4, m5, m6, m7⟩ := mtk_MI h hi hj
  refine ⟨fun k hk => by rw [m3 k hk]; exact h.1 i (by omega) k hk, fun k hk => by rw [m5 k hk]; exact h.1 j (by omega) k hk, ?_, ?_⟩
  · rw [vs_congr m3]; exact (h.2 i hi).1
  · rw [vs_congr m5]; exact (h.2 j hj).1
/-- what sum leaves, and what give makes of it -/
theorem sum_MI {T : ZZ} {g : Nat → Int} (h : MI T g) (hc : T 0 0 = 0) {f : Nat → Int} {s z : Int} (hf : dgs 65536 2100 f) (hs : s = 0 ∨ s = 1 ∨ s = -1) (hz : s * vs 65536 f 2100 = z) (h0 : s = 0 → vs 65536 f 2100 = 0) :
    MI (zup (zrw T 14 2100 f) 1 12 s) g ∧ zup (zrw T 14 2100 f) 1 12 s 0 0 = 0 ∧ vs 65536 (zup (zrw T 14 2100 f) 1 12 s 14) 2100 = (z.natAbs : Int) ∧ (z ≠ 0 → zup (zrw T 14 2100 f) 1 12 s 1 12 = z.sign) := by
  have hn := vs_nonneg (by decide) hf
  refine ⟨(h.row (j := 12) (by omega) hf).sgn (by omega) s, ?_, ?_, fun hz0 => ?_⟩
  · rw [zup_ne (by omega), zrw_off (by omega)]; exact hc
  · rw [zup_off _ 1 _ _ (by omega), vs_congr (g := f) (fun k hk => zrw_in hk)]
    rcases hs with rfl | rfl | rfl
    · have := h0 rfl; omega
    · omega
    · omega
  · rw [zup_eq]
    have := sg_cases z
    rcases hs with rfl | rfl | rfl <;> omega
set_option maxRecDepth 20000 in
theorem kX1_add (g : Nat → Int) (hI : MI Z g) (r i j : Int) (h0 : i32 r) (h1 : i32 i) (h2 : i32 j) : Ct l D (tM cI) (wM cI a) yX1_add wsX1_add 3 0 72 [.ref (a 0), .int (iZ r), .int (iZ i), .int (iZ j)] Z (fun v Z' => v = none ∧ Z' 0 0 = (oAdd g r i j).1 ∧ MI Z' (oAdd g r i j).2) nX := by
  refine Ct.of (cc := cX1_add) (maxL := 4) (ret := none) rfl (by decide) rfl (Nat.le_of_ble_eq_true rfl) (fun J hJ => ?_)
  unfold oAdd at hJ
  refine j_aload_n hJ dX1_add_0 rfl ?_
  refine j_iload_n hJ dX1_add_1 rfl ?_
  refine j_iload_n hJ dX1_add_2 rfl ?_
  refine j_iload_n hJ dX1_add_3 rfl ?_
  refine j_callV hJ (kX1_take l D cI a Z r i j h0 h1 h2) rfl gX1_add_X1_take rfl hdX1_take rfl ⟨Nat.le_of_ble_eq_true rfl, Nat.le_of_ble_eq_true rfl⟩ (Nat.le_of_ble_eq_true rfl) (Nat.le_of_ble_eq_true rfl) rfl rfl dX1_add_4 (fun _ _ h => False.elim h) (fun r4 Z4 hp4 => ?_)
  rcases hp4 with ⟨hn, rfl, rfl⟩ | ⟨⟨hr, hi, hj⟩, rfl, rfl⟩
  · rw [if_neg hn] at hJ; exact j_if_ne (tgt := 11) hJ (by decide) ⟨by omega, by omega⟩ dX1_add_7 (fun h => absurd rfl h) (fun _ => j_vret hJ (Nat.le_of_ble_eq_true rfl) ⟨rfl, zup_eq _ _ _ _, hI.code 1⟩ dX1_add_10)
  rw [if_pos ⟨hr, hi, hj⟩] at hJ
  obtain ⟨m1, m2, m3, m4, m5, m6, m7⟩ := mtk_MI hI (i := i.toNat) (j := j.toNat) (by omega) (by omega)
  obtain ⟨t1, t2, t3, t4⟩ := mtk_two hI (i := i.toNat) (j := j.toNat) (by omega) (by omega)
  have g1 := hI.2 i.toNat (by omega)
  have g2 := hI.2 j.toNat (by omega)
  have u1 := sg_mul (g i.toNat)
  have u2 := sg_mul (g j.toNat)
  refine j_if_ne (tgt := 11) hJ (by decide) ⟨by omega, by omega⟩ dX1_add_7 (fun _ => ?_) (fun h => absurd h (by decide))
  refine j_aload_n hJ dX1_add_11 rfl ?_
  refine j_callV hJ (kX1_sum l D cI a _ t1 t2 (by rw [m4, g1.2.1, t3]; exact sg_of _) (by rw [m6, g2.2.1, t4]; exact sg_of _) (by rw [t3]; exact g1.2.2) (by rw [t4]; exact g2.2.2)) rfl gX1_add_X1_sum rfl hdX1_sum rfl ⟨Nat.le_of_ble_eq_true rfl, Nat.le_of_ble_eq_true rfl⟩ (Nat.le_of_ble_eq_true rfl) (Nat.le_of_ble_eq_true rfl) rfl rfl dX1_add_12 (fun _ _ h => False.elim h) (fun r12 Z12 hp12 => ?_)
  obtain ⟨rfl, f, s, rfl, hf, hs, hz, hs0⟩ := hp12
  rw [m4, m6, g1.2.1, g2.2.1, t3, t4, u1, u2] at hz
  obtain ⟨w1, w2, w3, w4⟩ := sum_MI m1 m2 hf hs hz hs0
  refine j_aload_n hJ dX1_add_15 rfl ?_
  refine j_iload_n hJ dX1_add_16 rfl ?_
  refine j_callV hJ (kX1_give l D cI a _ _ ⟨by omega, by omega⟩ (w1.1 12 (by omega))) rfl gX1_add_X1_give rfl hdX1_give rfl ⟨Nat.le_of_ble_eq_true rfl, Nat.le_of_ble_eq_true rfl⟩ (Nat.le_of_ble_eq_true rfl) (Nat.le_of_ble_eq_true rfl) rfl rfl dX1_add_17 (fun _ _ h => False.elim h) (fun r17 Z17 hp17 => ?_)
  obtain ⟨rfl, hg⟩ := hp17
  exact j_vret hJ (Nat.le_of_ble_eq_true rfl) (⟨rfl, give_MI w1 hr w3 w4 w2 hg⟩) dX1_add_20
set_option maxRecDepth 20000 in
theorem kX1_subtract (g : Nat → Int) (hI : MI Z g) (r i j : Int) (h0 : i32 r) (h1 : i32 i) (h2 : i32 j) : Ct l D (tM cI) (wM cI a) yX1_subtract wsX1_subtract 3 0 72 [.ref (a 0), .int (iZ r), .int (iZ i), .int (iZ j)] Z (fun v Z' => v = none ∧ Z' 0 0 = (oSub g r i j).1 ∧ MI Z' (oSub g r i j).2) nX := by
  refine Ct.of (cc := cX1_subtract) (maxL := 4) (ret := none) rfl (by decide) rfl (Nat.le_of_ble_eq_true rfl) (fun J hJ => ?_)
  have hin : ∀ w ∈ u_ws RX1 TX1 3, w ∈ wsX1_subtract := by decide +kernel
  unfold oSub at hJ
  refine j_aload_n hJ dX1_subtract_0 rfl ?_
  refine j_iload_n hJ dX1_subtract_1 rfl ?_
  refine j_iload_n hJ dX1_subtract_2 rfl ?_
  refine j_iload_n hJ dX1_subtract_3 rfl ?_
  refine j_callV hJ (kX1_take l D cI a Z r i j h0 h1 h2) rfl gX1_subtract_X1_take rfl hdX1_take rfl ⟨Nat.le_of_ble_eq_true rfl, Nat.le_of_ble_eq_true rfl⟩ (Nat.le_of_ble_eq_true rfl) (Nat.le_of_ble_eq_true rfl) rfl rfl dX1_subtract_4 (fun _ _ h => False.elim h) (fun r4 Z4 hp4 => ?_)
  rcases hp4 with ⟨hn, rfl, rfl⟩ | ⟨⟨hr, hi, hj⟩, rfl, rfl⟩
  · rw [if_neg hn] at hJ; exact j_if_ne (tgt := 11) hJ (by decide) ⟨by omega, by omega⟩ dX1_subtract_7 (fun h => absurd rfl h) (fun _ => j_vret hJ (Nat.le_of_ble_eq_true rfl) ⟨rfl, zup_eq _ _ _ _, hI.code 1⟩ dX1_subtract_10)
  rw [if_pos ⟨hr, hi, hj⟩] at hJ
  obtain ⟨m1, m2, m3, m4, m5, m6, m7⟩ := mtk_MI hI (i := i.toNat) (j := j.toNat) (by omega) (by omega)
  obtain ⟨t1, t2, t3, t4⟩ := mtk_two hI (i := i.toNat) (j := j.toNat) (by omega) (by omega)
  have g1 := hI.2 i.toNat (by omega)
  have g2 := hI.2 j.toNat (by omega)
  have u1 := sg_mul (g i.toNat)
  have u2 := sg_mul (g j.toNat)
  have c2 := sg_cases (g j.toNat)
  refine j_if_ne (tgt := 11) hJ (by decide) ⟨by omega, by omega⟩ dX1_subtract_7 (fun _ => ?_) (fun h => absurd h (by decide))
  refine j_aload_n hJ dX1_subtract_11 rfl ?_
  refine m_sign hJ hin (by decide +kernel) dX1_subtract_12 ?_
  refine j_bipush hJ (by decide) dX1_subtract_15 ?_
  refine j_aload_n hJ dX1_subtract_17 rfl ?_
  refine m_sign hJ hin (by decide +kernel) dX1_subtract_18 ?_
  refine j_bipush hJ (by decide) dX1_subtract_21 ?_
  refine m_ald_sg hJ ⟨by omega, by omega⟩ dX1_subtract_23 ?_
  refine j_ineg hJ dX1_subtract_24 ?_
  refine m_ast_sg hJ ⟨by omega, by omega⟩ dX1_subtract_25 ?_
  rw [show (15 : Int).toNat = 15 from rfl, m6, g2.2.1]
  have m1' := m1.sgn (j := 15) (by omega) (-(g j.toNat).sign)
  have x16 := zup_off (mtk Z i.toNat j.toNat) 1 15 (-(g j.toNat).sign) (j' := 16) (by omega)
  have x17 := zup_off (mtk Z i.toNat j.toNat) 1 15 (-(g j.toNat).sign) (j' := 17) (by omega)
  have x14 : zup (mtk Z i.toNat j.toNat) 1 15 (-(g j.toNat).sign) 1 14 = _ := zup_ne (by omega)
  have x15 := zup_eq (mtk Z i.toNat j.toNat) 1 15 (-(g j.toNat).sign)
  have x00 : zup (mtk Z i.toNat j.toNat) 1 15 (-(g j.toNat).sign) 0 0 = _ := zup_ne (by omega)
  generalize zup (mtk Z i.toNat j.toNat) 1 15 (-(g j.toNat).sign) = T at m1' x16 x17 x14 x15 x00 ⊢
  refine j_aload_n hJ dX1_subtract_26 rfl ?_
  refine j_callV hJ (kX1_sum l D cI a _ (by rw [x16]; exact t1) (by rw [x17]; exact t2) (by rw [x14, m4, g1.2.1, x16, t3]; exact sg_of _) (by rw [x15, x17, t4]; unfold sgOK; omega) (by rw [x16, t3]; exact g1.2.2) (by rw [x17, t4]; exact g2.2.2)) rfl gX1_subtract_X1_sum rfl hdX1_sum rfl ⟨Nat.le_of_ble_eq_true rfl, Nat.le_of_ble_eq_true rfl⟩ (Nat.le_of_ble_eq_true rfl) (Nat.le_of_ble_eq_true rfl) rfl rfl dX1_subtract_27 (fun _ _ h => False.elim h) (fun r27 Z27 hp27 => ?_)
  obtain ⟨rfl, f, s, rfl, hf, hs, hz, hs0⟩ := hp27
  rw [x14, x15, x16, x17, m4, g1.2.1, t3, t4, u1, Int.neg_mul, u2, ← Int.sub_eq_add_neg] at hz
  obtain ⟨w1, w2, w3, w4⟩ := sum_MI m1' (x00.trans m2) hf hs hz hs0
  refine j_aload_n hJ dX1_subtract_30 rfl ?_
  refine j_iload_n hJ dX1_subtract_31 rfl ?_
  refine j_callV hJ (kX1_give l D cI a _ _ ⟨by omega, by omega⟩ (w1.1 12 (by omega))) rfl gX1_subtract_X1_give rfl hdX1_give rfl ⟨Nat.le_of_ble_eq_true rfl, Nat.le_of_ble_eq_true rfl⟩ (Nat.le_of_ble_eq_true rfl) (Nat.le_of_ble_eq_true rfl) rfl rfl dX1_subtract_32 (fun _ _ h => False.elim h) (fun r32 Z32 hp32 => ?_)
  obtain ⟨rfl, hg⟩ := hp32
  exact j_vret hJ (Nat.le_of_ble_eq_true rfl) (⟨rfl, give_MI w1 hr w3 w4 w2 hg⟩) dX1_subtract_35
end M6
