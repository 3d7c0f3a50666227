theorem row_top {Z : ZZ} {g : Nat → Int} (h : MI Z g) {i : Nat} (hi : i < 12) : ∀ k, 1024 ≤ k → k < 2100 → Z (i + 2) k = 0 := by
  intro k h1 h2
  have hd := h.1 i (by omega)
  have hg := h.2 i hi
  have hl : lenr (Z (i + 2)) 2100 ≤ 1024 := (lenr_iff (B := 65536) (by decide) hd).mpr (by rw [hg.1]; exact hg.2.2)
  exact lenr_zero _ 2100 k (by omega) h2
theorem zup_zrw {Z : ZZ} {j n i k : Nat} {f : Nat → Int} {v : Int} (h : i ≠ j) : zup (zrw Z j n f) i k v = zrw (zup Z i k v) j n f := by
  funext j' i'
  unfold zup zrw
  by_cases h1 : j' = j ∧ i' < n
  · rw [if_neg (by omega), if_pos h1, if_pos h1]
  · rw [if_neg h1, if_neg h1]
/-- the digits of a number with two words' digits ahead -/
def apf (f : Nat → Int) (n : Nat) : Nat → Int := fun i => if 2 ≤ i ∧ i < n + 2 then f (i - 2) else 0
theorem apf_s (f : Nat → Int) (n i : Nat) : fset (apf f n) (n + 2) (f n) i = apf f (n + 1) i := by
  unfold fset apf
  by_cases h : i = n + 2
  · rw [if_pos h, if_pos (by omega), h]; rfl
  · rw [if_neg h]
    by_cases h2 : 2 ≤ i ∧ i < n + 2
    · rw [if_pos h2, if_pos (by omega)]
    · rw [if_neg h2, if_neg (by omega)]
theorem apf_v {f : Nat → Int} (hf : ∀ k, 1024 ≤ k → k < 2100 → f k = 0) (x y : Int) : vs 65536 (fset (fset (apf f 1024) 0 x) 1 y) 2100 = vs 65536 f 2100 * 4294967296 + (x + y * 65536) := by
  rw [show 2100 = 2 + 2098 from rfl, vs_add]
  have e1 : vs 65536 (fun i => fset (fset (apf f 1024) 0 x) 1 y (2 + i)) 2098 = vs 65536 f (2 + 2098) := by
    rw [vs_top (m := 1024) (n := 2098) (by omega), vs_top (f := f) (m := 1024) (n := 2 + 2098) (by omega) hf]
    · refine vs_congr (fun i hi => ?_)
      show fset (fset (apf f 1024) 0 x) 1 y (2 + i) = f i
      rw [fset_ne (by omega), fset_ne (by omega)]
      unfold apf
      rw [if_pos (by omega), show 2 + i - 2 = i by omega]
    · intro i h1 h2
      show fset (fset (apf f 1024) 0 x) 1 y (2 + i) = 0
      rw [fset_ne (by omega), fset_ne (by omega)]
      unfold apf
      rw [if_neg (by omega)]
  rw [e1]
  show 0 + fset (fset (apf f 1024) 0 x) 1 y 0 * 65536 ^ 0 + fset (fset (apf f 1024) 0 x) 1 y 1 * 65536 ^ 1 + _ = _
  rw [fset_ne (by omega), fset_eq, fset_eq, show (65536 : Int) ^ 0 = 1 by decide, show (65536 : Int) ^ 1 = 65536 by decide, show (65536 : Int) ^ 2 = 4294967296 by decide]
  omega
theorem apf_d {f : Nat → Int} (hf : dgs 65536 2100 f) {x y : Int} (hx : 0 ≤ x ∧ x < 65536) (hy : 0 ≤ y ∧ y < 65536) : dgs 65536 2100 (fset (fset (apf f 1024) 0 x) 1 y) := by
  intro i hi
  unfold fset apf
  split
  · exact hy
  · split
    · exact hx
    · split
      · exact hf _ (by omega)
      · exact ⟨by omega, by omega⟩
section M9
variable (l : Launch) (D : va_G) (cI : ClassId) (a : Nat → Nat) (Z : ZZ)
set_option maxRecDepth 20000 in
theorem kX1_append (g : Nat → Int) (hI : MI Z g) (r w : Int) (h0 : i32 r) (h1 : i32 w) : Ct l D (tM cI) (wM cI a) yX1_append wsX1_append 3 0 67 [.ref (a 0), .int (iZ r), .int (iZ w)] Z (fun v Z' => v = none ∧ Z' 0 0 = (oApp g r w).1 ∧ MI Z' (oApp g r w).2) nX := by
  refine Ct.of (cc := cX1_append) (maxL := 4) (ret := none) rfl (by decide) rfl (Nat.le_of_ble_eq_true rfl) (fun J hJ => ?_)
  have hin : ∀ w ∈ u_ws RX1 TX1 3, w ∈ wsX1_append := by decide +kernel
  unfold oApp at hJ
  have p0 := isR_spec r
  have hc := (hI.code 0).sgn (j := 12) (by omega) 0
  have hcl : mclr (zup Z 0 0 0) 12 = zrw (zup (zup Z 0 0 0) 1 12 0) 14 2100 (fun _ => 0) := zup_zrw (by omega)
  have hT0 : zup (zup Z 0 0 0) 1 12 0 0 0 = 0 := by rw [zup_ne (by omega), zup_eq]
  generalize hT : zup (zup Z 0 0 0) 1 12 0 = T at hc hcl hT0
  have fin : isRg r → IsJ l D (tM cI) (wM cI a) cX1_append 4 wsX1_append RX1 3 0 67 none (fun v Z' => v = none ∧ Z' 0 0 = (lim g r ((if g r.toNat < 0 then -1 else 1) * (((g r.toNat).natAbs : Int) * 4294967296 + w % 4294967296))).1 ∧ MI Z' (lim g r ((if g r.toNat < 0 then -1 else 1) * (((g r.toNat).natAbs : Int) * 4294967296 + w % 4294967296))).2) nX J → J (zrw T 14 2100 (apf (T (r.toNat + 2)) 1024)) 0 60 [(0, .ref (a 0)), (1, .int (iZ r)), (2, .int (iZ w))] [] := by
    intro hr hJ
    have hg := hc.2 r.toNat (by omega)
    have hd := hc.1 r.toNat (by omega)
    have ht := row_top hc (i := r.toNat) (by omega)
    have e1 : (12 : Int).toNat = 12 := rfl
    have e2 : (0 : Int).toNat = 0 := rfl
    have e3 : (1 : Int).toNat = 1 := rfl
    have n9 : (w % 4294967296 / 65536 < 65536) := by omega
    have hz : vs 65536 (fset (fset (apf (T (r.toNat + 2)) 1024) 0 (w % 65536)) 1 (w % 4294967296 / 65536)) 2100 = ((g r.toNat).natAbs : Int) * 4294967296 + w % 4294967296 := by
      rw [apf_v ht, hg.1]; omega
    have hd2 := apf_d hd (x := w % 65536) (y := w % 4294967296 / 65536) ⟨by omega, by omega⟩ ⟨by omega, by omega⟩
    have hM := hc.row (j := 12) (by omega) hd2
    have sc := sg_cases (g r.toNat)
    have go : ∀ s : Int, s = (if g r.toNat < 0 then -1 else 1) → J (zup (zrw T 14 2100 (fset (fset (apf (T (r.toNat + 2)) 1024) 0 (w % 65536)) 1 (w % 4294967296 / 65536))) 1 12 s) 0 103 [(0, .ref (a 0)), (1, .int (iZ r)), (2, .int (iZ w))] [] := by
      intro s hs
      have hs1 : s = 1 ∨ s = -1 := by rw [hs]; split <;> omega
      have hM2 := hM.sgn (j := 12) (by omega) s
      have hv : vs 65536 (zup (zrw T 14 2100 (fset (fset (apf (T (r.toNat + 2)) 1024) 0 (w % 65536)) 1 (w % 4294967296 / 65536))) 1 12 s 14) 2100 = (((if g r.toNat < 0 then -1 else 1) * (((g r.toNat).natAbs : Int) * 4294967296 + w % 4294967296)).natAbs : Int) := by
        rw [zup_off _ 1 _ _ (by omega), vs_congr (g := fset (fset (apf (T (r.toNat + 2)) 1024) 0 (w % 65536)) 1 (w % 4294967296 / 65536)) (fun k hk => zrw_in hk), hz, ← hs]
        rcases hs1 with rfl | rfl <;> omega
      have hsg : ((if g r.toNat < 0 then -1 else 1) * (((g r.toNat).natAbs : Int) * 4294967296 + w % 4294967296)) ≠ 0 → zup (zrw T 14 2100 (fset (fset (apf (T (r.toNat + 2)) 1024) 0 (w % 65536)) 1 (w % 4294967296 / 65536))) 1 12 s 1 12 = ((if g r.toNat < 0 then -1 else 1) * (((g r.toNat).natAbs : Int) * 4294967296 + w % 4294967296)).sign := by
        intro hne
        rw [zup_eq, ← hs]
        rw [← hs] at hne
        have q := sg_cases (s * (((g r.toNat).natAbs : Int) * 4294967296 + w % 4294967296))
        rcases hs1 with rfl | rfl <;> omega
      have h00 : zup (zrw T 14 2100 (fset (fset (apf (T (r.toNat + 2)) 1024) 0 (w % 65536)) 1 (w % 4294967296 / 65536))) 1 12 s 0 0 = 0 := by rw [zup_ne (by omega), zrw_off (by omega)]; exact hT0
      refine j_aload_n hJ dX1_append_103 rfl ?_
      refine j_iload_n hJ dX1_append_104 rfl ?_
      refine j_callV hJ (kX1_give l D cI a _ _ ⟨by omega, by omega⟩ (hM2.1 12 (by omega))) rfl gX1_append_X1_give rfl hdX1_give rfl ⟨Nat.le_of_ble_eq_true rfl, Nat.le_of_ble_eq_true rfl⟩ (Nat.le_of_ble_eq_true rfl) (Nat.le_of_ble_eq_true rfl) rfl rfl dX1_append_105 (fun _ _ h => False.elim h) (fun r105 Z105 hp105 => ?_)
      obtain ⟨rfl, hp⟩ := hp105
      exact j_vret hJ (Nat.le_of_ble_eq_true rfl) (⟨rfl, give_MI hM2 hr hv hsg h00 hp⟩) dX1_append_108
    refine j_aload_n hJ dX1_append_60 rfl ?_
    refine j_bipush hJ (by decide) dX1_append_61 ?_
    refine j_iconst hJ dX1_append_63 ?_
    refine j_iload_n hJ dX1_append_64 rfl ?_
    refine j_ldc (v := 65535) (z := 65535) hJ (by decide) (by decide +kernel) dX1_append_65 ?_
    refine j_iand hJ (iZ_low16 _) dX1_append_67 ?_
    refine j_callV hJ (kX1_put l D cI a _ _ _ _ ⟨by omega, by omega⟩ ⟨by omega, by omega⟩) rfl gX1_append_X1_put rfl hdX1_put rfl ⟨Nat.le_of_ble_eq_true rfl, Nat.le_of_ble_eq_true rfl⟩ (Nat.le_of_ble_eq_true rfl) (Nat.le_of_ble_eq_true rfl) rfl rfl dX1_append_68 (fun _ _ h => False.elim h) (fun r68 Z68 hp68 => ?_)
    obtain ⟨rfl, rfl⟩ := hp68
    rw [e1, e2, zrw_upd (by omega)]
    refine j_aload_n hJ dX1_append_71 rfl ?_
    refine j_bipush hJ (by decide) dX1_append_72 ?_
    refine j_iconst hJ dX1_append_74 ?_
    refine j_iload_n hJ dX1_append_75 rfl ?_
    refine j_bipush hJ (by decide) dX1_append_76 ?_
    refine j_iushr (n := 16) hJ (by decide) dX1_append_78 ?_
    refine j_callV hJ (kX1_put l D cI a _ _ _ _ ⟨by omega, by omega⟩ ⟨by omega, by omega⟩) rfl gX1_append_X1_put rfl hdX1_put rfl ⟨Nat.le_of_ble_eq_true rfl, Nat.le_of_ble_eq_true rfl⟩ (Nat.le_of_ble_eq_true rfl) (Nat.le_of_ble_eq_true rfl) rfl rfl dX1_append_79 (fun _ _ h => False.elim h) (fun r79 Z79 hp79 => ?_)
    obtain ⟨rfl, rfl⟩ := hp79
    rw [e1, e3, zrw_upd (by omega)]
    refine j_aload_n hJ dX1_append_82 rfl ?_
    refine m_sign hJ hin (by decide +kernel) dX1_append_83 ?_
    refine j_bipush hJ (by decide) dX1_append_86 ?_
    refine j_aload_n hJ dX1_append_88 rfl ?_
    refine m_sign hJ hin (by decide +kernel) dX1_append_89 ?_
    refine j_iload_n hJ dX1_append_92 rfl ?_
    refine m_ald_sg hJ ⟨by omega, by omega⟩ dX1_append_93 ?_
    rw [zrw_off (by omega), hg.2.1]
    refine j_if_ge (tgt := 101) hJ (by decide) ⟨by omega, by omega⟩ dX1_append_94 (fun h94 => ?_) (fun h94 => ?_)
    · refine j_iconst hJ dX1_append_101 ?_
      refine m_ast_sg hJ ⟨by omega, by omega⟩ dX1_append_102 ?_
      first | exact go _ (by rw [if_pos (by omega)]) | exact go _ (by rw [if_neg (by omega)])
    · refine j_iconst hJ dX1_append_97 ?_
      refine j_goto (tgt := 102) hJ (by decide) dX1_append_98 ?_
      refine m_ast_sg hJ ⟨by omega, by omega⟩ dX1_append_102 ?_
      first | exact go _ (by rw [if_pos (by omega)]) | exact go _ (by rw [if_neg (by omega)])
  have loop : isRg r → IsJ l D (tM cI) (wM cI a) cX1_append 4 wsX1_append RX1 3 0 67 none (fun v Z' => v = none ∧ Z' 0 0 = (lim g r ((if g r.toNat < 0 then -1 else 1) * (((g r.toNat).natAbs : Int) * 4294967296 + w % 4294967296))).1 ∧ MI Z' (lim g r ((if g r.toNat < 0 then -1 else 1) * (((g r.toNat).natAbs : Int) * 4294967296 + w % 4294967296))).2) nX J → ∀ (m n : Nat), n + m = 1024 → J (zrw T 14 2100 (apf (T (r.toNat + 2)) n)) 0 32 [(0, .ref (a 0)), (1, .int (iZ r)), (2, .int (iZ w)), (3, .int (iZ n))] [] := by
    intro hr hJ m
    induction m with
    | zero =>
      intro n hn
      have hn2 : n = 1024 := by omega
      subst hn2
      refine j_iload_n hJ dX1_append_32 rfl ?_
      refine j_sipush hJ (by decide) dX1_append_33 ?_
      refine j_icmp_ge (tgt := 60) hJ (by decide) ⟨by omega, by omega⟩ ⟨by omega, by omega⟩ dX1_append_36 (fun h36 => ?_) (fun h36 => ?_)
      · exact j_re hJ (fin hr hJ) ⟨rfl, rfl, rfl, trivial⟩
      · omega
    | succ m ih =>
      intro n hn
      have e1 : zrw T 14 2100 (apf (T (r.toNat + 2)) n) (r.toNat + 2) = T (r.toNat + 2) := zrw_off (by omega)
      have e3 : ((n : Nat) : Int).toNat = n := by omega
      have e4 : ((n : Nat) : Int) + 2 = ((n + 2 : Nat) : Int) := by omega
      refine j_iload_n hJ dX1_append_32 rfl ?_
      refine j_sipush hJ (by decide) dX1_append_33 ?_
      refine j_icmp_ge (tgt := 60) hJ (by decide) ⟨by omega, by omega⟩ ⟨by omega, by omega⟩ dX1_append_36 (fun h36 => ?_) (fun h36 => ?_)
      · omega
      · refine j_aload_n hJ dX1_append_39 rfl ?_
        refine j_bipush hJ (by decide) dX1_append_40 ?_
        refine j_iload_n hJ dX1_append_42 rfl ?_
        refine j_iconst hJ dX1_append_43 ?_
        refine j_iadd hJ dX1_append_44 ?_
        refine j_aload_n hJ dX1_append_45 rfl ?_
        refine j_iload_n hJ dX1_append_46 rfl ?_
        refine j_iload_n hJ dX1_append_47 rfl ?_
        refine j_callV hJ (kX1_get l D cI a _ _ _ ⟨by omega, by omega⟩ ⟨by omega, by omega⟩) rfl gX1_append_X1_get rfl hdX1_get rfl ⟨Nat.le_of_ble_eq_true rfl, Nat.le_of_ble_eq_true rfl⟩ (Nat.le_of_ble_eq_true rfl) (Nat.le_of_ble_eq_true rfl) rfl rfl dX1_append_48 (fun _ _ h => False.elim h) (fun r48 Z48 hp48 => ?_)
        obtain ⟨rfl, rfl⟩ := hp48
        rw [e3, e1]
        refine j_callV hJ (kX1_put l D cI a _ _ _ _ ⟨by omega, by omega⟩ ⟨by omega, by omega⟩) rfl gX1_append_X1_put rfl hdX1_put rfl ⟨Nat.le_of_ble_eq_true rfl, Nat.le_of_ble_eq_true rfl⟩ (Nat.le_of_ble_eq_true rfl) (Nat.le_of_ble_eq_true rfl) rfl rfl dX1_append_51 (fun _ _ h => False.elim h) (fun r51 Z51 hp51 => ?_)
        obtain ⟨rfl, rfl⟩ := hp51
        rw [show (12 : Int).toNat + 2 = 14 from rfl, show (((n : Nat) : Int) + 2).toNat = n + 2 by omega, zrw_upd (by omega), zrw_congr (fun i _ => apf_s _ n i)]
        refine j_iinc hJ (by decide) dX1_append_54 rfl ?_
        refine j_goto (tgt := 32) hJ (by decide) dX1_append_57 ?_
        exact j_re hJ (ih (n + 1) (by omega)) ⟨rfl, rfl, rfl, rfl, trivial⟩
  refine j_aload_n hJ dX1_append_0 rfl ?_
  refine j_iload_n hJ dX1_append_1 rfl ?_
  refine j_callS hJ (kX1_isRegister l D _ ⟨by omega, by omega⟩) rfl gX1_append_X1_isRegister rfl hsX1_isRegister rfl ⟨Nat.le_of_ble_eq_true rfl, Nat.le_of_ble_eq_true rfl⟩ (Nat.le_of_ble_eq_true rfl) (Nat.le_of_ble_eq_true rfl) dX1_append_2 (fun _ h => False.elim h) (fun r2 hp2 => ?_)
  subst hp2
  refine j_if_eq (tgt := 12) hJ (by decide) ⟨by omega, by omega⟩ dX1_append_5 (fun h5 => ?_) (fun h5 => ?_)
  · rw [if_neg (by omega)] at hJ
    refine j_iconst hJ dX1_append_12 ?_
    refine m_putcode hJ hin (by decide +kernel) dX1_append_13 ?_
    refine j_aload_n hJ dX1_append_16 rfl ?_
    refine m_code hJ hin (by decide +kernel) dX1_append_17 ?_
    rw [zup_eq]
    refine j_if_le (tgt := 24) hJ (by decide) ⟨by omega, by omega⟩ dX1_append_20 (fun h20 => absurd h20 (by decide)) (fun h20 => ?_)
    exact j_vret hJ (Nat.le_of_ble_eq_true rfl) (⟨rfl, zup_eq _ _ _ _, hI.code 1⟩) dX1_append_23
  · rw [if_pos ⟨by omega, by omega⟩] at hJ
    refine j_iconst hJ dX1_append_8 ?_
    refine j_goto (tgt := 13) hJ (by decide) dX1_append_9 ?_
    refine m_putcode hJ hin (by decide +kernel) dX1_append_13 ?_
    refine j_aload_n hJ dX1_append_16 rfl ?_
    refine m_code hJ hin (by decide +kernel) dX1_append_17 ?_
    rw [zup_eq]
    refine j_if_le (tgt := 24) hJ (by decide) ⟨by omega, by omega⟩ dX1_append_20 (fun h20 => ?_) (fun h20 => absurd h20 (by decide))
    refine j_aload_n hJ dX1_append_24 rfl ?_
    refine j_bipush hJ (by decide) dX1_append_25 ?_
    refine j_callV hJ (kX1_clear l D cI a _ _ ⟨by omega, by omega⟩) rfl gX1_append_X1_clear rfl hdX1_clear rfl ⟨Nat.le_of_ble_eq_true rfl, Nat.le_of_ble_eq_true rfl⟩ (Nat.le_of_ble_eq_true rfl) (Nat.le_of_ble_eq_true rfl) rfl rfl dX1_append_27 (fun _ _ h => False.elim h) (fun r27 Z27 hp27 => ?_)
    obtain ⟨rfl, rfl⟩ := hp27
    rw [show (12 : Int).toNat = 12 from rfl, hcl]
    refine j_iconst hJ dX1_append_30 ?_
    refine j_istore_n hJ (by decide) dX1_append_31 ?_
    have h9 := loop ⟨by omega, by omega⟩ hJ 1024 0 (by omega)
    rw [zrw_congr (g := fun _ => 0) (fun i _ => by unfold apf; rw [if_neg (by omega)])] at h9
    exact j_re hJ h9 ⟨rfl, rfl, rfl, rfl, trivial⟩
theorem two_digits {f : Nat → Int} (hf : dgs 65536 2100 f) {k : Nat} (hk : k < 512) : vs 65536 f 2100 / 4294967296 ^ k % 4294967296 = f (2 * k + 1) * 65536 + f (2 * k) := by
  have hp : (4294967296 : Int) ^ k = 65536 ^ (2 * k) := by rw [← pw_mul]; rfl
  obtain ⟨m, hm⟩ : ∃ m, 2100 = 2 * k + (m + 1 + 1) := ⟨2100 - 2 * k - 2, by omega⟩
  have h1 := hf (2 * k) (by omega)
  have h2 := hf (2 * k + 1) (by omega)
  rw [hp]
  rw [hm] at hf ⊢
  rw [vs_div (by decide) hf, vs_1, vs_1]
  show (f (2 * k + 0) + 65536 * (f (2 * k + (1 + 0)) + 65536 * _)) % 4294967296 = _
  rw [Nat.add_zero, Nat.add_zero]
  omega
set_option maxRecDepth 20000 in
theorem kX1_word (g : Nat → Int) (hI : MI Z g) (r k : Int) (h0 : i32 r) (h1 : i32 k) : Ct l D (tM cI) (wM cI a) yX1_word wsX1_word 1 0 22 [.ref (a 0), .int (iZ r), .int (iZ k)] Z (fun v Z' => v = some (.int (iZ (oWord g r k).2)) ∧ Z' 0 0 = (oWord g r k).1 ∧ MI Z' g) nX := by
  refine Ct.of (cc := cX1_word) (maxL := 3) (ret := some .int) rfl (by decide) rfl (Nat.le_of_ble_eq_true rfl) (fun J hJ => ?_)
  have hin : ∀ w ∈ u_ws RX1 TX1 3, w ∈ wsX1_word := by decide +kernel
  unfold oWord at hJ
  have p0 := isR_spec r
  refine j_aload_n hJ dX1_word_0 rfl ?_
  refine j_iload_n hJ dX1_word_1 rfl ?_
  refine j_callS hJ (kX1_isRegister l D _ ⟨by omega, by omega⟩) rfl gX1_word_X1_isRegister rfl hsX1_isRegister rfl ⟨Nat.le_of_ble_eq_true rfl, Nat.le_of_ble_eq_true rfl⟩ (Nat.le_of_ble_eq_true rfl) (Nat.le_of_ble_eq_true rfl) dX1_word_2 (fun _ h => False.elim h) (fun r2 hp2 => ?_)
  subst hp2
  refine j_if_eq (tgt := 23) hJ (by decide) ⟨by omega, by omega⟩ dX1_word_5 (fun h5 => ?_) (fun h5 => ?_)
  · rw [if_neg (by omega)] at hJ
    refine j_iconst hJ dX1_word_23 ?_
    refine m_putcode hJ hin (by decide +kernel) dX1_word_24 ?_
    refine j_aload_n hJ dX1_word_27 rfl ?_
    refine m_code hJ hin (by decide +kernel) dX1_word_28 ?_
    rw [zup_eq]
    refine j_if_le (tgt := 38) hJ (by decide) ⟨by omega, by omega⟩ dX1_word_31 (fun h31 => absurd h31 (by decide)) (fun h31 => ?_)
    refine j_iconst hJ dX1_word_34 ?_
    refine j_goto (tgt := 60) hJ (by decide) dX1_word_35 ?_
    exact j_iret hJ (Nat.le_of_ble_eq_true rfl) (by first | exact ⟨rfl, zup_eq _ _ _ _, hI.code 1⟩ | exact ⟨by rw [e2]; rfl, zup_eq _ _ _ _, hc⟩) dX1_word_60
  · refine j_iload_n hJ dX1_word_8 rfl ?_
    refine j_if_lt (tgt := 23) hJ (by decide) ⟨by omega, by omega⟩ dX1_word_9 (fun h9 => ?_) (fun h9 => ?_)
    · rw [if_neg (by omega)] at hJ
      refine j_iconst hJ dX1_word_23 ?_
      refine m_putcode hJ hin (by decide +kernel) dX1_word_24 ?_
      refine j_aload_n hJ dX1_word_27 rfl ?_
      refine m_code hJ hin (by decide +kernel) dX1_word_28 ?_
      rw [zup_eq]
      refine j_if_le (tgt := 38) hJ (by decide) ⟨by omega, by omega⟩ dX1_word_31 (fun h31 => absurd h31 (by decide)) (fun h31 => ?_)
      refine j_iconst hJ dX1_word_34 ?_
      refine j_goto (tgt := 60) hJ (by decide) dX1_word_35 ?_
      exact j_iret hJ (Nat.le_of_ble_eq_true rfl) (by first | exact ⟨rfl, zup_eq _ _ _ _, hI.code 1⟩ | exact ⟨by rw [e2]; rfl, zup_eq _ _ _ _, hc⟩) dX1_word_60
    · refine j_iload_n hJ dX1_word_12 rfl ?_
      refine j_sipush hJ (by decide) dX1_word_13 ?_
      refine j_icmp_ge (tgt := 23) hJ (by decide) ⟨by omega, by omega⟩ ⟨by omega, by omega⟩ dX1_word_16 (fun h16 => ?_) (fun h16 => ?_)
      · rw [if_neg (by omega)] at hJ
        refine j_iconst hJ dX1_word_23 ?_
        refine m_putcode hJ hin (by decide +kernel) dX1_word_24 ?_
        refine j_aload_n hJ dX1_word_27 rfl ?_
        refine m_code hJ hin (by decide +kernel) dX1_word_28 ?_
        rw [zup_eq]
        refine j_if_le (tgt := 38) hJ (by decide) ⟨by omega, by omega⟩ dX1_word_31 (fun h31 => absurd h31 (by decide)) (fun h31 => ?_)
        refine j_iconst hJ dX1_word_34 ?_
        refine j_goto (tgt := 60) hJ (by decide) dX1_word_35 ?_
        exact j_iret hJ (Nat.le_of_ble_eq_true rfl) (by first | exact ⟨rfl, zup_eq _ _ _ _, hI.code 1⟩ | exact ⟨by rw [e2]; rfl, zup_eq _ _ _ _, hc⟩) dX1_word_60
      · rw [if_pos ⟨⟨by omega, by omega⟩, by omega, by omega⟩] at hJ
        have hc := hI.code 0
        have hd := hc.1 r.toNat (by omega)
        have q1 := hd (2 * k.toNat) (by omega)
        have q2 := hd (2 * k.toNat + 1) (by omega)
        have e2 := two_digits hd (k := k.toNat) (by omega)
        rw [(hc.2 r.toNat (by omega)).1] at e2
        refine j_iconst hJ dX1_word_19 ?_
        refine j_goto (tgt := 24) hJ (by decide) dX1_word_20 ?_
        refine m_putcode hJ hin (by decide +kernel) dX1_word_24 ?_
        refine j_aload_n hJ dX1_word_27 rfl ?_
        refine m_code hJ hin (by decide +kernel) dX1_word_28 ?_
        rw [zup_eq]
        refine j_if_le (tgt := 38) hJ (by decide) ⟨by omega, by omega⟩ dX1_word_31 (fun h31 => ?_) (fun h31 => absurd h31 (by decide))
        refine j_aload_n hJ dX1_word_38 rfl ?_
        refine j_iload_n hJ dX1_word_39 rfl ?_
        refine j_iconst hJ dX1_word_40 ?_
        refine j_iload_n hJ dX1_word_41 rfl ?_
        refine j_imul hJ dX1_word_42 ?_
        refine j_callV hJ (kX1_get l D cI a _ _ _ ⟨by omega, by omega⟩ ⟨by omega, by omega⟩) rfl gX1_word_X1_get rfl hdX1_get rfl ⟨Nat.le_of_ble_eq_true rfl, Nat.le_of_ble_eq_true rfl⟩ (Nat.le_of_ble_eq_true rfl) (Nat.le_of_ble_eq_true rfl) rfl rfl dX1_word_43 (fun _ _ h => False.elim h) (fun r43 Z43 hp43 => ?_)
        obtain ⟨rfl, rfl⟩ := hp43
        rw [show (2 * k).toNat = 2 * k.toNat by omega]
        refine j_aload_n hJ dX1_word_46 rfl ?_
        refine j_iload_n hJ dX1_word_47 rfl ?_
        refine j_iconst hJ dX1_word_48 ?_
        refine j_iload_n hJ dX1_word_49 rfl ?_
        refine j_imul hJ dX1_word_50 ?_
        refine j_iconst hJ dX1_word_51 ?_
        refine j_iadd hJ dX1_word_52 ?_
        refine j_callV hJ (kX1_get l D cI a _ _ _ ⟨by omega, by omega⟩ ⟨by omega, by omega⟩) rfl gX1_word_X1_get rfl hdX1_get rfl ⟨Nat.le_of_ble_eq_true rfl, Nat.le_of_ble_eq_true rfl⟩ (Nat.le_of_ble_eq_true rfl) (Nat.le_of_ble_eq_true rfl) rfl rfl dX1_word_53 (fun _ _ h => False.elim h) (fun r53 Z53 hp53 => ?_)
        obtain ⟨rfl, rfl⟩ := hp53
        rw [show (2 * k + 1).toNat = 2 * k.toNat + 1 by omega]
        refine j_bipush hJ (by decide) dX1_word_56 ?_
        refine j_ishl (n := 16) hJ (by decide) dX1_word_58 ?_
        refine j_ior hJ ((iZ_or_comm _ _).trans (iZ_or (n := 16) (by decide) ⟨by omega, by omega⟩)) dX1_word_59 ?_
        exact j_iret hJ (Nat.le_of_ble_eq_true rfl) (by first | exact ⟨rfl, zup_eq _ _ _ _, hI.code 1⟩ | exact ⟨by rw [e2]; rfl, zup_eq _ _ _ _, hc⟩) dX1_word_60
set_option maxRecDepth 20000 in
theorem kX1_residue (g : Nat → Int) (hI : MI Z g) (r m : Int) (h0 : i32 r) (h1 : i32 m) : Ct l D (tM cI) (wM cI a) yX1_residue wsX1_residue 2 0 44 [.ref (a 0), .int (iZ r), .int (iZ m)] Z (fun v Z' => v = some (.int (iZ (oRes g r m).2)) ∧ Z' 0 0 = (oRes g r m).1 ∧ MI Z' g) nX := by
  refine Ct.of (cc := cX1_residue) (maxL := 6) (ret := some .int) rfl (by decide) rfl (Nat.le_of_ble_eq_true rfl) (fun J hJ => ?_)
  have hin : ∀ w ∈ u_ws RX1 TX1 3, w ∈ wsX1_residue := by decide +kernel
  unfold oRes at hJ
  have p0 := isR_spec r
  have hc := hI.code 0
  have hT0 : zup Z 0 0 0 0 0 = 0 := zup_eq _ _ _ _
  generalize hT : zup Z 0 0 0 = T at hc hT0
  have loop : isRg r → 1 ≤ m → IsJ l D (tM cI) (wM cI a) cX1_residue 6 wsX1_residue RX1 2 0 44 (some .int) (fun v Z' => v = some (.int (iZ (g r.toNat % m))) ∧ Z' 0 0 = 0 ∧ MI Z' g) nX J → ∀ n : Nat, n ≤ 2100 → J T 0 48 [(0, .ref (a 0)), (1, .int (iZ r)), (2, .int (iZ m)), (3, .long (lZ (vs 65536 (T (r.toNat + 2)) 2100 / 65536 ^ n % m))), (5, .int (iZ ((n : Int) - 1)))] [] := by
    intro hr hm hJ n
    have hd := hc.1 r.toNat (by omega)
    have hg := hc.2 r.toNat (by omega)
    induction n with
    | zero =>
      intro hn
      have sc := sg_cases (g r.toNat)
      have e0 : vs 65536 (T (r.toNat + 2)) 2100 / 65536 ^ 0 % m = ((g r.toNat).natAbs : Int) % m := by rw [Int.pow_zero, Int.ediv_one, hg.1]
      rw [e0]
      have b1 := Int.emod_nonneg ((g r.toNat).natAbs : Int) (show m ≠ 0 by omega)
      have b2 := Int.emod_lt_of_pos ((g r.toNat).natAbs : Int) (show 0 < m by omega)
      have fin1 : 0 ≤ g r.toNat → g r.toNat % m = ((g r.toNat).natAbs : Int) % m := fun q => by rw [show ((g r.toNat).natAbs : Int) = g r.toNat by omega]
      have fin2 : g r.toNat < 0 → ((g r.toNat).natAbs : Int) % m ≤ 0 → g r.toNat % m = ((g r.toNat).natAbs : Int) % m := fun q q2 => by
        rw [show ((g r.toNat).natAbs : Int) = - g r.toNat by omega] at b1 q2 ⊢
        have e : -g r.toNat % m = 0 := by omega
        rw [e]
        exact Int.emod_eq_zero_of_dvd ((Int.dvd_neg).mp (Int.dvd_of_emod_eq_zero e))
      have fin3 : g r.toNat < 0 → 0 < ((g r.toNat).natAbs : Int) % m → g r.toNat % m = m - ((g r.toNat).natAbs : Int) % m := fun q q2 => by
        rw [show ((g r.toNat).natAbs : Int) = - g r.toNat by omega] at b1 b2 q2 ⊢
        have e : g r.toNat = (m - -g r.toNat % m) + m * (-(-g r.toNat / m) - 1) := by
          have := Int.mul_ediv_add_emod (-g r.toNat) m
          grind
        rw [e, Int.add_mul_emod_self_left, ← e]
        exact Int.emod_eq_of_lt (by omega) (by omega)
      generalize ((g r.toNat).natAbs : Int) % m = y at b1 b2 fin1 fin2 fin3 ⊢
      refine j_iload hJ dX1_residue_48 rfl ?_
      refine j_if_lt (tgt := 77) hJ (by decide) ⟨by omega, by omega⟩ dX1_residue_50 (fun h50 => ?_) (fun h50 => ?_)
      · refine j_aload_n hJ dX1_residue_77 rfl ?_
        refine m_sign hJ hin (by decide +kernel) dX1_residue_78 ?_
        refine j_iload_n hJ dX1_residue_81 rfl ?_
        refine m_ald_sg hJ ⟨by omega, by omega⟩ dX1_residue_82 ?_
        rw [hg.2.1]
        refine j_if_ge (tgt := 99) hJ (by decide) ⟨by omega, by omega⟩ dX1_residue_83 (fun h83 => ?_) (fun h83 => ?_)
        · refine j_lload_n hJ dX1_residue_99 rfl ?_
          refine j_l2i hJ dX1_residue_100 ?_
          exact j_iret hJ (Nat.le_of_ble_eq_true rfl) (⟨by first | rw [fin1 (by omega)] | rw [fin2 (by omega) (by omega)] | rw [fin3 (by omega) (by omega)], hT0, hc⟩) dX1_residue_101
        · refine j_lload_n hJ dX1_residue_86 rfl ?_
          refine j_lconst (z := 0) hJ (by decide) dX1_residue_87 ?_
          refine j_lcmp_le (tgt := 99) hJ (by decide) ⟨by omega, by omega⟩ ⟨by omega, by omega⟩ dX1_residue_88 dX1_residue_89 (fun h88 => ?_) (fun h88 => ?_)
          · refine j_lload_n hJ dX1_residue_99 rfl ?_
            refine j_l2i hJ dX1_residue_100 ?_
            exact j_iret hJ (Nat.le_of_ble_eq_true rfl) (⟨by first | rw [fin1 (by omega)] | rw [fin2 (by omega) (by omega)] | rw [fin3 (by omega) (by omega)], hT0, hc⟩) dX1_residue_101
          · refine j_iload_n hJ dX1_residue_92 rfl ?_
            refine j_i2l hJ ⟨by omega, by omega⟩ dX1_residue_93 ?_
            refine j_lload_n hJ dX1_residue_94 rfl ?_
            refine j_lsub hJ dX1_residue_95 ?_
            refine j_goto (tgt := 100) hJ (by decide) dX1_residue_96 ?_
            refine j_l2i hJ dX1_residue_100 ?_
            exact j_iret hJ (Nat.le_of_ble_eq_true rfl) (⟨by first | rw [fin1 (by omega)] | rw [fin2 (by omega) (by omega)] | rw [fin3 (by omega) (by omega)], hT0, hc⟩) dX1_residue_101
      · omega
    | succ n ih =>
      intro hn
      have q1 := hd n (by omega)
      have e1 : (((n + 1 : Nat) : Int) - 1).toNat = n := by omega
      have b1 := Int.emod_nonneg (vs 65536 (T (r.toNat + 2)) 2100 / 65536 ^ (n + 1)) (show m ≠ 0 by omega)
      have b2 := Int.emod_lt_of_pos (vs 65536 (T (r.toNat + 2)) 2100 / 65536 ^ (n + 1)) (show 0 < m by omega)
      have dg := vs_digit (B := 65536) (by decide) (show n < 2100 by omega) hd
      have stp : (vs 65536 (T (r.toNat + 2)) 2100 / 65536 ^ (n + 1) % m * 65536 + T (r.toNat + 2) n) % m = vs 65536 (T (r.toNat + 2)) 2100 / 65536 ^ n % m := by
        have e2 : vs 65536 (T (r.toNat + 2)) 2100 / 65536 ^ n = vs 65536 (T (r.toNat + 2)) 2100 / 65536 ^ (n + 1) * 65536 + T (r.toNat + 2) n := by
          rw [pw_s, ← Int.ediv_ediv_of_nonneg (Int.le_of_lt (pw_pos (by decide) n))]
          omega
        rw [e2, Int.add_emod, Int.mul_emod, Int.emod_emod_of_dvd _ (Int.dvd_refl m), ← Int.mul_emod, ← Int.add_emod]
      generalize vs 65536 (T (r.toNat + 2)) 2100 / 65536 ^ (n + 1) % m = y at b1 b2 stp ⊢
      refine j_iload hJ dX1_residue_48 rfl ?_
      refine j_if_lt (tgt := 77) hJ (by decide) ⟨by omega, by omega⟩ dX1_residue_50 (fun h50 => ?_) (fun h50 => ?_)
      · omega
      · refine j_lload_n hJ dX1_residue_53 rfl ?_
        refine j_ldc2 (v := 65536) (z := 65536) hJ (by decide) (by decide +kernel) dX1_residue_54 ?_
        refine j_lmul hJ dX1_residue_57 ?_
        refine j_aload_n hJ dX1_residue_58 rfl ?_
        refine j_iload_n hJ dX1_residue_59 rfl ?_
        refine j_iload hJ dX1_residue_60 rfl ?_
        refine j_callV hJ (kX1_get l D cI a _ _ _ ⟨by omega, by omega⟩ ⟨by omega, by omega⟩) rfl gX1_residue_X1_get rfl hdX1_get rfl ⟨Nat.le_of_ble_eq_true rfl, Nat.le_of_ble_eq_true rfl⟩ (Nat.le_of_ble_eq_true rfl) (Nat.le_of_ble_eq_true rfl) rfl rfl dX1_residue_62 (fun _ _ h => False.elim h) (fun r62 Z62 hp62 => ?_)
        obtain ⟨rfl, rfl⟩ := hp62
        rw [e1]
        refine j_i2l hJ ⟨by omega, by omega⟩ dX1_residue_65 ?_
        refine j_ladd hJ dX1_residue_66 ?_
        refine j_iload_n hJ dX1_residue_67 rfl ?_
        refine j_i2l hJ ⟨by omega, by omega⟩ dX1_residue_68 ?_
        refine j_lrem hJ (by omega) ⟨by omega, by omega⟩ ⟨by omega, by omega⟩ (by omega) dX1_residue_69 ?_
        refine j_lstore_n hJ (by decide) dX1_residue_70 ?_
        refine j_iinc hJ (by decide) dX1_residue_71 rfl ?_
        refine j_goto (tgt := 48) hJ (by decide) dX1_residue_74 ?_
        rw [stp]
        exact j_re hJ (ih (by omega)) ⟨rfl, rfl, rfl, rfl, by show some (Value.int (iZ (((n + 1 : Nat) : Int) - 1 + -1))) = _; rw [show ((n + 1 : Nat) : Int) - 1 + -1 = (n : Int) - 1 by omega], trivial⟩
  refine j_aload_n hJ dX1_residue_0 rfl ?_
  refine j_iload_n hJ dX1_residue_1 rfl ?_
  refine j_callS hJ (kX1_isRegister l D _ ⟨by omega, by omega⟩) rfl gX1_residue_X1_isRegister rfl hsX1_isRegister rfl ⟨Nat.le_of_ble_eq_true rfl, Nat.le_of_ble_eq_true rfl⟩ (Nat.le_of_ble_eq_true rfl) (Nat.le_of_ble_eq_true rfl) dX1_residue_2 (fun _ h => False.elim h) (fun r2 hp2 => ?_)
  subst hp2
  refine j_if_eq (tgt := 12) hJ (by decide) ⟨by omega, by omega⟩ dX1_residue_5 (fun h5 => ?_) (fun h5 => ?_)
  · rw [if_neg (by omega)] at hJ
    refine j_iconst hJ dX1_residue_12 ?_
    refine m_putcode hJ hin (by decide +kernel) dX1_residue_13 ?_
    refine j_aload_n hJ dX1_residue_16 rfl ?_
    refine m_code hJ hin (by decide +kernel) dX1_residue_17 ?_
    rw [zup_eq]
    refine j_if_le (tgt := 25) hJ (by decide) ⟨by omega, by omega⟩ dX1_residue_20 (fun h20 => absurd h20 (by decide)) (fun h20 => ?_)
    refine j_iconst hJ dX1_residue_23 ?_
    exact j_iret hJ (Nat.le_of_ble_eq_true rfl) (⟨rfl, zup_eq _ _ _ _, hI.code 1⟩) dX1_residue_24
  · rw [if_pos ⟨by omega, by omega⟩] at hJ
    try rw [hT]
    refine j_iconst hJ dX1_residue_8 ?_
    refine j_goto (tgt := 13) hJ (by decide) dX1_residue_9 ?_
    refine m_putcode hJ hin (by decide +kernel) dX1_residue_13 ?_
    refine j_aload_n hJ dX1_residue_16 rfl ?_
    refine m_code hJ hin (by decide +kernel) dX1_residue_17 ?_
    rw [zup_eq]
    refine j_if_le (tgt := 25) hJ (by decide) ⟨by omega, by omega⟩ dX1_residue_20 (fun h20 => ?_) (fun h20 => absurd h20 (by decide))
    refine j_iload_n hJ dX1_residue_25 rfl ?_
    refine j_iconst hJ dX1_residue_26 ?_
    refine j_icmp_ge (tgt := 37) hJ (by decide) ⟨by omega, by omega⟩ ⟨by omega, by omega⟩ dX1_residue_27 (fun h27 => ?_) (fun h27 => ?_)
    · rw [if_neg (by omega)] at hJ
      rw [hT]
      refine j_lconst (z := 0) hJ (by decide) dX1_residue_37 ?_
      refine j_lstore_n hJ (by decide) dX1_residue_38 ?_
      refine j_aload_n hJ dX1_residue_39 rfl ?_
      refine j_iload_n hJ dX1_residue_40 rfl ?_
      refine j_callV hJ (kX1_length l D cI a _ _ ⟨by omega, by omega⟩ (hc.1 r.toNat (by omega))) rfl gX1_residue_X1_length rfl hdX1_length rfl ⟨Nat.le_of_ble_eq_true rfl, Nat.le_of_ble_eq_true rfl⟩ (Nat.le_of_ble_eq_true rfl) (Nat.le_of_ble_eq_true rfl) rfl rfl dX1_residue_41 (fun _ _ h => False.elim h) (fun r41 Z41 hp41 => ?_)
      obtain ⟨rfl, rfl⟩ := hp41
      refine j_iconst hJ dX1_residue_44 ?_
      refine j_isub hJ dX1_residue_45 ?_
      refine j_istore hJ (by decide) dX1_residue_46 ?_
      have hl := lenr_le (T (r.toNat + 2)) 2100
      have h9 := loop ⟨by omega, by omega⟩ (by omega) hJ (lenr (T (r.toNat + 2)) 2100) hl
      rw [Int.ediv_eq_zero_of_lt (vs_nonneg (by decide) (hc.1 r.toNat (by omega))) (lenr_lt (by decide) (hc.1 r.toNat (by omega))), Int.zero_emod] at h9
      exact j_re hJ h9 ⟨rfl, rfl, rfl, rfl, rfl, trivial⟩
    · rw [if_pos (by omega)] at hJ
      refine j_aload_n hJ dX1_residue_30 rfl ?_
      refine j_iconst hJ dX1_residue_31 ?_
      refine m_putcode hJ hin (by decide +kernel) dX1_residue_32 ?_
      refine j_iconst hJ dX1_residue_35 ?_
      exact j_iret hJ (Nat.le_of_ble_eq_true rfl) (⟨rfl, zup_eq _ _ _ _, (hI.code 0).code 2⟩) dX1_residue_36
end M9
