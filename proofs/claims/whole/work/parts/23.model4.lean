section M4
variable (l : Launch) (D : va_G) (cI : ClassId) (a : Nat → Nat) (Z : ZZ)
set_option maxRecDepth 20000 in
theorem kX1_bit (r : Int) (k : Nat) (h1 : 0 ≤ r ∧ r < 16) (hk : k < 33600) (d1 : dgs 65536 2100 (Z (r.toNat + 2))) : Ct l D (tM cI) (wM cI a) yX1_bit wsX1_bit 1 0 22 [.ref (a 0), .int (iZ r), .int (iZ (k : Int))] Z (fun v Z' => v = some (.int (iZ (vs 65536 (Z (r.toNat + 2)) 2100 / 2 ^ k % 2))) ∧ Z = Z') nX := by
  refine Ct.of (cc := cX1_bit) (maxL := 3) (ret := some .int) rfl (by decide) rfl (Nat.le_of_ble_eq_true rfl) (fun J hJ => ?_)
  have q1 := d1 (k / 16) (by omega)
  have e1 : ((k : Int) / 16).toNat = k / 16 := by omega
  have e2 : (k : Int) % 16 = ((k % 16 : Nat) : Int) := by omega
  have hb := bit_digit d1 (q := k / 16) (s := k % 16) (by omega) (by omega)
  rw [show 16 * (k / 16) + k % 16 = k by omega] at hb
  refine j_aload_n hJ dX1_bit_0 rfl ?_
  refine j_iload_n hJ dX1_bit_1 rfl ?_
  refine j_iload_n hJ dX1_bit_2 rfl ?_
  refine j_bipush hJ (by decide) dX1_bit_3 ?_
  refine j_idiv hJ (by omega) ⟨by omega, by omega⟩ ⟨by omega, by omega⟩ (by omega) dX1_bit_5 ?_
  refine j_callV hJ (kX1_get l D cI a _ _ _ ⟨by omega, by omega⟩ ⟨by omega, by omega⟩) rfl gX1_bit_X1_get rfl hdX1_get rfl ⟨Nat.le_of_ble_eq_true rfl, Nat.le_of_ble_eq_true rfl⟩ (Nat.le_of_ble_eq_true rfl) (Nat.le_of_ble_eq_true rfl) rfl rfl dX1_bit_6 (fun _ _ h => False.elim h) (fun r6 Z6 hp6 => ?_)
  obtain ⟨rfl, rfl⟩ := hp6
  rw [e1]
  refine j_iload_n hJ dX1_bit_9 rfl ?_
  refine j_bipush hJ (by decide) dX1_bit_10 ?_
  refine j_irem hJ (by omega) ⟨by omega, by omega⟩ ⟨by omega, by omega⟩ (by omega) dX1_bit_12 ?_
  rw [e2]
  refine j_ishr (n := k % 16) hJ (by omega) ⟨by omega, by omega⟩ dX1_bit_13 ?_
  refine j_iconst hJ dX1_bit_14 ?_
  refine j_iand hJ (iZ_low1 _) dX1_bit_15 ?_
  exact j_iret hJ (Nat.le_of_ble_eq_true rfl) (⟨by rw [pw2_cast, hb], rfl⟩) dX1_bit_16
set_option maxRecDepth 20000 in
theorem kX1_bitsOf (r : Int) (h1 : 0 ≤ r ∧ r < 16) (d1 : dgs 65536 2100 (Z (r.toNat + 2))) : Ct l D (tM cI) (wM cI a) yX1_bitsOf wsX1_bitsOf 2 0 44 [.ref (a 0), .int (iZ r)] Z (fun v Z' => (∃ z : Nat, v = some (.int (iZ (z : Int))) ∧ nb (vs 65536 (Z (r.toNat + 2)) 2100) z ∧ z ≤ 33600) ∧ Z = Z') nX := by
  refine Ct.of (cc := cX1_bitsOf) (maxL := 5) (ret := some .int) rfl (by decide) rfl (Nat.le_of_ble_eq_true rfl) (fun J hJ => ?_)
  have hl := lenr_le (Z (r.toNat + 2)) 2100
  have hlt := lenr_top (Z (r.toNat + 2)) 2100
  have hvl := vs_len 65536 (Z (r.toNat + 2)) 2100
  have loop : ∀ (t : Nat) (v : Int) (b : Nat), (0 ≤ v ∧ v < 2 ^ t) → t ≤ 16 → b + t ≤ 33600 → (∀ z : Nat, nb v z → z ≤ t → nb (vs 65536 (Z (r.toNat + 2)) 2100) (b + z)) → J Z 0 30 [(0, .ref (a 0)), (1, .int (iZ r)), (3, .int (iZ (b : Int))), (4, .int (iZ v))] [] := by
    intro t
    induction t with
    | zero =>
      intro v b hv ht hb hn
      rw [Int.pow_zero] at hv
      refine j_iload hJ dX1_bitsOf_30 rfl ?_
      refine j_if_le (tgt := 47) hJ (by decide) ⟨by omega, by omega⟩ dX1_bitsOf_32 (fun h32 => ?_) (fun h32 => ?_)
      · refine j_iload_n hJ dX1_bitsOf_47 rfl ?_
        exact j_iret hJ (Nat.le_of_ble_eq_true rfl) (⟨⟨b, rfl, (by have := hn 0 ⟨(by rw [show v = 0 by omega]; decide), Or.inl rfl⟩ (Nat.le_refl 0); exact this), by omega⟩, rfl⟩) dX1_bitsOf_48
      · omega
    | succ t ih =>
      intro v b hv ht hb hn
      have hv2 := hv.2
      have hpm := pw_mono (B := 2) (by decide) ht
      have h16 : (2 : Int) ^ 16 = 65536 := by decide
      rw [pw_s] at hv2
      refine j_iload hJ dX1_bitsOf_30 rfl ?_
      refine j_if_le (tgt := 47) hJ (by decide) ⟨by omega, by omega⟩ dX1_bitsOf_32 (fun h32 => ?_) (fun h32 => ?_)
      · refine j_iload_n hJ dX1_bitsOf_47 rfl ?_
        exact j_iret hJ (Nat.le_of_ble_eq_true rfl) (⟨⟨b, rfl, (by have := hn 0 ⟨(by rw [show v = 0 by omega]; decide), Or.inl rfl⟩ (Nat.zero_le _); exact this), by omega⟩, rfl⟩) dX1_bitsOf_48
      · refine j_iinc hJ (by decide) dX1_bitsOf_35 rfl ?_
        refine j_iload hJ dX1_bitsOf_38 rfl ?_
        refine j_iconst hJ dX1_bitsOf_40 ?_
        refine j_ishr (n := 1) hJ (by decide) ⟨by omega, by omega⟩ dX1_bitsOf_41 ?_
        refine j_istore hJ (by decide) dX1_bitsOf_42 ?_
        refine j_goto (tgt := 30) hJ (by decide) dX1_bitsOf_44 ?_
        refine j_re hJ (ih (v / 2) (b + 1) ⟨by omega, by omega⟩ (by omega) (by omega) (fun z hz hzt => ?_)) ⟨rfl, rfl, rfl, rfl, trivial⟩
        have h9 := hn (z + 1) (nb_half (by omega) hz) (by omega)
        rw [show b + 1 + z = b + (z + 1) by omega]
        exact h9
  refine j_aload_n hJ dX1_bitsOf_0 rfl ?_
  refine j_iload_n hJ dX1_bitsOf_1 rfl ?_
  refine j_callV hJ (kX1_length l D cI a _ _ ⟨by omega, by omega⟩ (by assumption)) rfl gX1_bitsOf_X1_length rfl hdX1_length rfl ⟨Nat.le_of_ble_eq_true rfl, Nat.le_of_ble_eq_true rfl⟩ (Nat.le_of_ble_eq_true rfl) (Nat.le_of_ble_eq_true rfl) rfl rfl dX1_bitsOf_2 (fun _ _ h => False.elim h) (fun r2 Z2 hp2 => ?_)
  obtain ⟨rfl, rfl⟩ := hp2
  refine j_istore_n hJ (by decide) dX1_bitsOf_5 ?_
  refine j_iload_n hJ dX1_bitsOf_6 rfl ?_
  refine j_if_ne (tgt := 12) hJ (by decide) ⟨by omega, by omega⟩ dX1_bitsOf_7 (fun h7 => ?_) (fun h7 => ?_)
  · refine j_bipush hJ (by decide) dX1_bitsOf_12 ?_
    refine j_iload_n hJ dX1_bitsOf_14 rfl ?_
    refine j_imul hJ dX1_bitsOf_15 ?_
    refine j_bipush hJ (by decide) dX1_bitsOf_16 ?_
    refine j_isub hJ dX1_bitsOf_18 ?_
    refine j_istore_n hJ (by decide) dX1_bitsOf_19 ?_
    obtain ⟨m, hm⟩ : ∃ m, lenr (Z (r.toNat + 2)) 2100 = m + 1 := ⟨lenr (Z (r.toNat + 2)) 2100 - 1, by omega⟩
    rw [hm] at hlt hvl hl ⊢
    have hdm := d1 m (by omega)
    have hne : Z (r.toNat + 2) m ≠ 0 := hlt.resolve_left (by omega)
    refine j_aload_n hJ dX1_bitsOf_20 rfl ?_
    refine j_iload_n hJ dX1_bitsOf_21 rfl ?_
    refine j_iload_n hJ dX1_bitsOf_22 rfl ?_
    refine j_iconst hJ dX1_bitsOf_23 ?_
    refine j_isub hJ dX1_bitsOf_24 ?_
    refine j_callV hJ (kX1_get l D cI a _ _ _ ⟨by omega, by omega⟩ ⟨by omega, by omega⟩) rfl gX1_bitsOf_X1_get rfl hdX1_get rfl ⟨Nat.le_of_ble_eq_true rfl, Nat.le_of_ble_eq_true rfl⟩ (Nat.le_of_ble_eq_true rfl) (Nat.le_of_ble_eq_true rfl) rfl rfl dX1_bitsOf_25 (fun _ _ h => False.elim h) (fun r25 Z25 hp25 => ?_)
    obtain ⟨rfl, rfl⟩ := hp25
    rw [show (((m + 1 : Nat) : Int) - 1).toNat = m by omega]
    refine j_istore hJ (by decide) dX1_bitsOf_28 ?_
    refine j_re hJ (loop 16 (Z (r.toNat + 2) m) (16 * m) ⟨by omega, by have : (2 : Int) ^ 16 = 65536 := (by decide); omega⟩ (by omega) (by omega) (fun z hz _ => ?_)) ⟨rfl, rfl, by show some (Value.int (iZ (16 * ((m + 1 : Nat) : Int) - 16))) = _; rw [show 16 * ((m + 1 : Nat) : Int) - 16 = ((16 * m : Nat) : Int) by omega], rfl, trivial⟩
    rw [hvl]
    refine nb_top (b := 16) (dgs_mono (n := 2100) (fun i hi => d1 i hi) (by omega)) hz ?_
    rcases Nat.eq_zero_or_pos z with q | q
    · subst q; have := hz.1; rw [Int.pow_zero] at this; omega
    · exact q
  · refine j_iconst hJ dX1_bitsOf_10 ?_
    exact j_iret hJ (Nat.le_of_ble_eq_true rfl) (⟨⟨0, rfl, (by rw [hvl, show lenr (Z (r.toNat + 2)) 2100 = 0 by omega]; exact nb_0), by omega⟩, rfl⟩) dX1_bitsOf_11
set_option maxRecDepth 20000 in
theorem kX1_give (r : Int) (h1 : 0 ≤ r ∧ r < 16) (d1 : dgs 65536 2100 (Z 14)) : Ct l D (tM cI) (wM cI a) yX1_give wsX1_give 2 0 46 [.ref (a 0), .int (iZ r)] Z (fun v Z' => v = none ∧ ((65536 ^ 1024 ≤ vs 65536 (Z 14) 2100 ∧ Z' = zup Z 0 0 2) ∨ (vs 65536 (Z 14) 2100 < 65536 ^ 1024 ∧ vs 65536 (Z 14) 2100 = 0 ∧ Z' = mmov (zup Z 1 12 0) r.toNat 12) ∨ (vs 65536 (Z 14) 2100 < 65536 ^ 1024 ∧ vs 65536 (Z 14) 2100 ≠ 0 ∧ Z' = mmov Z r.toNat 12))) nX := by
  refine Ct.of (cc := cX1_give) (maxL := 2) (ret := none) rfl (by decide) rfl (Nat.le_of_ble_eq_true rfl) (fun J hJ => ?_)
  have hin : ∀ w ∈ u_ws RX1 TX1 3, w ∈ wsX1_give := by decide +kernel
  have hl := lenr_le (Z 14) 2100
  have hiff := lenr_iff (B := 65536) (by decide) d1 (m := 1024)
  have h0iff := lenr_0iff (B := 65536) (by decide) d1
  have d2 : dgs 65536 2100 (Z ((12 : Int).toNat + 2)) := d1
  refine j_aload_n hJ dX1_give_0 rfl ?_
  refine j_bipush hJ (by decide) dX1_give_1 ?_
  refine j_callV hJ (kX1_length l D cI a _ _ ⟨by omega, by omega⟩ (by assumption)) rfl gX1_give_X1_length rfl hdX1_length rfl ⟨Nat.le_of_ble_eq_true rfl, Nat.le_of_ble_eq_true rfl⟩ (Nat.le_of_ble_eq_true rfl) (Nat.le_of_ble_eq_true rfl) rfl rfl dX1_give_3 (fun _ _ h => False.elim h) (fun r3 Z3 hp3 => ?_)
  obtain ⟨rfl, rfl⟩ := hp3
  rw [show (12 : Int).toNat + 2 = 14 from rfl]
  refine j_sipush hJ (by decide) dX1_give_6 ?_
  refine j_icmp_le (tgt := 18) hJ (by decide) ⟨by omega, by omega⟩ ⟨by omega, by omega⟩ dX1_give_9 (fun h9 => ?_) (fun h9 => ?_)
  · refine j_aload_n hJ dX1_give_18 rfl ?_
    refine j_bipush hJ (by decide) dX1_give_19 ?_
    refine j_callV hJ (kX1_length l D cI a _ _ ⟨by omega, by omega⟩ (by assumption)) rfl gX1_give_X1_length rfl hdX1_length rfl ⟨Nat.le_of_ble_eq_true rfl, Nat.le_of_ble_eq_true rfl⟩ (Nat.le_of_ble_eq_true rfl) (Nat.le_of_ble_eq_true rfl) rfl rfl dX1_give_21 (fun _ _ h => False.elim h) (fun r21 Z21 hp21 => ?_)
    obtain ⟨rfl, rfl⟩ := hp21
    rw [show (12 : Int).toNat + 2 = 14 from rfl]
    refine j_if_ne (tgt := 35) hJ (by decide) ⟨by omega, by omega⟩ dX1_give_24 (fun h24 => ?_) (fun h24 => ?_)
    · refine j_aload_n hJ dX1_give_35 rfl ?_
      refine j_iload_n hJ dX1_give_36 rfl ?_
      refine j_bipush hJ (by decide) dX1_give_37 ?_
      refine j_callV hJ (kX1_move l D cI a _ _ _ ⟨by omega, by omega⟩ ⟨by omega, by omega⟩) rfl gX1_give_X1_move rfl hdX1_move rfl ⟨Nat.le_of_ble_eq_true rfl, Nat.le_of_ble_eq_true rfl⟩ (Nat.le_of_ble_eq_true rfl) (Nat.le_of_ble_eq_true rfl) rfl rfl dX1_give_39 (fun _ _ h => False.elim h) (fun r39 Z39 hp39 => ?_)
      obtain ⟨rfl, rfl⟩ := hp39
      exact j_vret hJ (Nat.le_of_ble_eq_true rfl) (⟨rfl, by first | exact Or.inr (Or.inl ⟨by omega, by omega, rfl⟩) | exact Or.inr (Or.inr ⟨by omega, by omega, rfl⟩)⟩) dX1_give_42
    · refine j_aload_n hJ dX1_give_27 rfl ?_
      refine m_sign hJ hin (by decide +kernel) dX1_give_28 ?_
      refine j_bipush hJ (by decide) dX1_give_31 ?_
      refine j_iconst hJ dX1_give_33 ?_
      refine m_ast_sg hJ ⟨by omega, by omega⟩ dX1_give_34 ?_
      refine j_aload_n hJ dX1_give_35 rfl ?_
      refine j_iload_n hJ dX1_give_36 rfl ?_
      refine j_bipush hJ (by decide) dX1_give_37 ?_
      refine j_callV hJ (kX1_move l D cI a _ _ _ ⟨by omega, by omega⟩ ⟨by omega, by omega⟩) rfl gX1_give_X1_move rfl hdX1_move rfl ⟨Nat.le_of_ble_eq_true rfl, Nat.le_of_ble_eq_true rfl⟩ (Nat.le_of_ble_eq_true rfl) (Nat.le_of_ble_eq_true rfl) rfl rfl dX1_give_39 (fun _ _ h => False.elim h) (fun r39 Z39 hp39 => ?_)
      obtain ⟨rfl, rfl⟩ := hp39
      exact j_vret hJ (Nat.le_of_ble_eq_true rfl) (⟨rfl, by first | exact Or.inr (Or.inl ⟨by omega, by omega, rfl⟩) | exact Or.inr (Or.inr ⟨by omega, by omega, rfl⟩)⟩) dX1_give_42
  · refine j_aload_n hJ dX1_give_12 rfl ?_
    refine j_iconst hJ dX1_give_13 ?_
    refine m_putcode hJ hin (by decide +kernel) dX1_give_14 ?_
    exact j_vret hJ (Nat.le_of_ble_eq_true rfl) (⟨rfl, Or.inl ⟨by omega, rfl⟩⟩) dX1_give_17
end M4
