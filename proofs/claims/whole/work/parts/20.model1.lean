/-! the reference's smallest methods -/
section M1
variable (l : Launch) (D : va_G) (cI : ClassId) (a : Nat → Nat) (Z : ZZ)
set_option maxRecDepth 20000 in
theorem kX1_thrown : Ct l D (tM cI) (wM cI a) yX1_thrown wsX1_thrown 0 0 0 [.ref (a 0)] Z (fun v Z' => v = some (.int (iZ (Z 0 0))) ∧ Z = Z') nX := by
  refine Ct.of (cc := cX1_thrown) (maxL := 1) (ret := some .int) rfl (by decide) rfl (Nat.le_of_ble_eq_true rfl) (fun J hJ => ?_)
  have hin : ∀ w ∈ u_ws RX1 TX1 3, w ∈ wsX1_thrown := by decide +kernel
  refine j_aload_n hJ dX1_thrown_0 rfl ?_
  refine m_code hJ hin (by decide +kernel) dX1_thrown_1 ?_
  exact j_iret hJ (Nat.le_of_ble_eq_true rfl) (⟨rfl, rfl⟩) dX1_thrown_4
def isR (r : Int) : Int := if 0 ≤ r ∧ r < 12 then 1 else 0
set_option maxRecDepth 20000 in
theorem kX1_isRegister (r : Int) (hr : i32 r) : Ct l D [] wE yX1_isRegister wsX1_isRegister 0 0 0 [.int (iZ r)] () (fun v _ => v = some (.int (iZ (isR r)))) nX := by
  refine Ct.of (cc := cX1_isRegister) (maxL := 1) (ret := some .boolean) rfl (by decide) rfl (Nat.le_of_ble_eq_true rfl) (fun J hJ => ?_)
  refine j_iload_n hJ dX1_isRegister_0 rfl ?_
  refine j_if_lt (tgt := 14) hJ (by decide) ⟨by omega, by omega⟩ dX1_isRegister_1 (fun h1 => ?_) (fun h1 => ?_)
  · refine j_iconst hJ dX1_isRegister_14 ?_
    exact j_zret hJ (by decide) (Nat.le_of_ble_eq_true rfl) (by unfold isR; first | rw [if_pos ⟨by omega, by omega⟩] | rw [if_neg (by omega)]) dX1_isRegister_15
  · refine j_iload_n hJ dX1_isRegister_4 rfl ?_
    refine j_bipush hJ (by decide) dX1_isRegister_5 ?_
    refine j_icmp_ge (tgt := 14) hJ (by decide) ⟨by omega, by omega⟩ ⟨by omega, by omega⟩ dX1_isRegister_7 (fun h7 => ?_) (fun h7 => ?_)
    · refine j_iconst hJ dX1_isRegister_14 ?_
      exact j_zret hJ (by decide) (Nat.le_of_ble_eq_true rfl) (by unfold isR; first | rw [if_pos ⟨by omega, by omega⟩] | rw [if_neg (by omega)]) dX1_isRegister_15
    · refine j_iconst hJ dX1_isRegister_10 ?_
      refine j_goto (tgt := 15) hJ (by decide) dX1_isRegister_11 ?_
      exact j_zret hJ (by decide) (Nat.le_of_ble_eq_true rfl) (by unfold isR; first | rw [if_pos ⟨by omega, by omega⟩] | rw [if_neg (by omega)]) dX1_isRegister_15
set_option maxRecDepth 20000 in
theorem kX1_get (r k : Int) (hr : 0 ≤ r ∧ r < 16) (hk : 0 ≤ k ∧ k < 2100) : Ct l D (tM cI) (wM cI a) yX1_get wsX1_get 0 0 0 [.ref (a 0), .int (iZ r), .int (iZ k)] Z (fun v Z' => v = some (.int (iZ (Z (r.toNat + 2) k.toNat))) ∧ Z = Z') nX := by
  refine Ct.of (cc := cX1_get) (maxL := 3) (ret := some .int) rfl (by decide) rfl (Nat.le_of_ble_eq_true rfl) (fun J hJ => ?_)
  have hin : ∀ w ∈ u_ws RX1 TX1 3, w ∈ wsX1_get := by decide +kernel
  refine j_aload_n hJ dX1_get_0 rfl ?_
  refine m_digits hJ hin (by decide +kernel) dX1_get_1 ?_
  refine j_sipush hJ (by decide) dX1_get_4 ?_
  refine j_iload_n hJ dX1_get_7 rfl ?_
  refine j_imul hJ dX1_get_8 ?_
  refine j_iload_n hJ dX1_get_9 rfl ?_
  refine j_iadd hJ dX1_get_10 ?_
  refine m_ald_dg hJ ⟨by omega, by omega⟩ dX1_get_11 ?_
  exact j_iret hJ (Nat.le_of_ble_eq_true rfl) (⟨by rw [show (2100 * r + k).toNat / 2100 = r.toNat by omega, show (2100 * r + k).toNat % 2100 = k.toNat by omega], rfl⟩) dX1_get_12
set_option maxRecDepth 20000 in
theorem kX1_put (r k v : Int) (hr : 0 ≤ r ∧ r < 16) (hk : 0 ≤ k ∧ k < 2100) : Ct l D (tM cI) (wM cI a) yX1_put wsX1_put 0 0 0 [.ref (a 0), .int (iZ r), .int (iZ k), .int (iZ v)] Z (fun w Z' => w = none ∧ Z' = zup Z (r.toNat + 2) k.toNat v) nX := by
  refine Ct.of (cc := cX1_put) (maxL := 4) (ret := none) rfl (by decide) rfl (Nat.le_of_ble_eq_true rfl) (fun J hJ => ?_)
  have hin : ∀ w ∈ u_ws RX1 TX1 3, w ∈ wsX1_put := by decide +kernel
  refine j_aload_n hJ dX1_put_0 rfl ?_
  refine m_digits hJ hin (by decide +kernel) dX1_put_1 ?_
  refine j_sipush hJ (by decide) dX1_put_4 ?_
  refine j_iload_n hJ dX1_put_7 rfl ?_
  refine j_imul hJ dX1_put_8 ?_
  refine j_iload_n hJ dX1_put_9 rfl ?_
  refine j_iadd hJ dX1_put_10 ?_
  refine j_iload_n hJ dX1_put_11 rfl ?_
  refine m_ast_dg hJ ⟨by omega, by omega⟩ dX1_put_12 ?_
  exact j_vret hJ (Nat.le_of_ble_eq_true rfl) (⟨rfl, by rw [show (2100 * r + k).toNat / 2100 = r.toNat by omega, show (2100 * r + k).toNat % 2100 = k.toNat by omega]⟩) dX1_put_13
def mclr (Z : ZZ) (r : Nat) : ZZ := zup (zrw Z (r + 2) 2100 (fun _ => 0)) 1 r 0
def mmov (Z : ZZ) (r r2 : Nat) : ZZ := zup (zrw Z (r + 2) 2100 (Z (r2 + 2))) 1 r (Z 1 r2)
set_option maxRecDepth 20000 in
theorem kX1_clear (r : Int) (hr : 0 ≤ r ∧ r < 16) : Ct l D (tM cI) (wM cI a) yX1_clear wsX1_clear 1 0 23 [.ref (a 0), .int (iZ r)] Z (fun v Z' => v = none ∧ Z' = mclr Z r.toNat) nX := by
  refine Ct.of (cc := cX1_clear) (maxL := 3) (ret := none) rfl (by decide) rfl (Nat.le_of_ble_eq_true rfl) (fun J hJ => ?_)
  have hin : ∀ w ∈ u_ws RX1 TX1 3, w ∈ wsX1_clear := by decide +kernel
  have loop : ∀ (n : Nat) (i : Int), 0 ≤ i → 2100 - i = n → J (zrw Z (r.toNat + 2) i.toNat (fun _ => 0)) 0 2 [(0, .ref (a 0)), (1, .int (iZ r)), (2, .int (iZ i))] [] := by
    intro n
    induction n with
    | zero =>
      intro i h0 hn
      refine j_iload_n hJ dX1_clear_2 rfl ?_
      refine j_sipush hJ (by decide) dX1_clear_3 ?_
      refine j_icmp_ge (tgt := 22) hJ (by decide) ⟨by omega, by omega⟩ ⟨by omega, by omega⟩ dX1_clear_6 (fun h6 => ?_) (fun h6 => ?_)
      · refine j_aload_n hJ dX1_clear_22 rfl ?_
        refine m_sign hJ hin (by decide +kernel) dX1_clear_23 ?_
        refine j_iload_n hJ dX1_clear_26 rfl ?_
        refine j_iconst hJ dX1_clear_27 ?_
        refine m_ast_sg hJ ⟨by omega, by omega⟩ dX1_clear_28 ?_
        exact j_vret hJ (Nat.le_of_ble_eq_true rfl) (⟨rfl, by rw [show i.toNat = 2100 by omega]; rfl⟩) dX1_clear_29
      · omega
    | succ n ih =>
      intro i h0 hn
      refine j_iload_n hJ dX1_clear_2 rfl ?_
      refine j_sipush hJ (by decide) dX1_clear_3 ?_
      refine j_icmp_ge (tgt := 22) hJ (by decide) ⟨by omega, by omega⟩ ⟨by omega, by omega⟩ dX1_clear_6 (fun h6 => ?_) (fun h6 => ?_)
      · omega
      · refine j_aload_n hJ dX1_clear_9 rfl ?_
        refine j_iload_n hJ dX1_clear_10 rfl ?_
        refine j_iload_n hJ dX1_clear_11 rfl ?_
        refine j_iconst hJ dX1_clear_12 ?_
        refine j_callV hJ (kX1_put l D cI a _ _ _ _ ⟨by omega, by omega⟩ ⟨by omega, by omega⟩) rfl gX1_clear_X1_put rfl hdX1_put rfl ⟨Nat.le_of_ble_eq_true rfl, Nat.le_of_ble_eq_true rfl⟩ (Nat.le_of_ble_eq_true rfl) (Nat.le_of_ble_eq_true rfl) rfl rfl dX1_clear_13 (fun _ _ h => False.elim h) (fun r13 Z13 hp13 => ?_)
        obtain ⟨rfl, rfl⟩ := hp13
        refine j_iinc hJ (by decide) dX1_clear_16 rfl ?_
        refine j_goto (tgt := 2) hJ (by decide) dX1_clear_19 ?_
        rw [zrw_succ Z _ _ (fun _ => 0), show i.toNat + 1 = (i + 1).toNat by omega]
        exact j_re hJ (ih (i + 1) (by omega) (by omega)) ⟨rfl, rfl, rfl, trivial⟩
  refine j_iconst hJ dX1_clear_0 ?_
  refine j_istore_n hJ (by decide) dX1_clear_1 ?_
  have h9 := loop 2100 0 (by omega) (by omega)
  rw [show (0 : Int).toNat = 0 from rfl, zrw_0] at h9
  exact j_re hJ h9 ⟨rfl, rfl, rfl, trivial⟩
set_option maxRecDepth 20000 in
theorem kX1_move (r r2 : Int) (hr : 0 ≤ r ∧ r < 16) (hr2 : 0 ≤ r2 ∧ r2 < 16) : Ct l D (tM cI) (wM cI a) yX1_move wsX1_move 1 0 23 [.ref (a 0), .int (iZ r), .int (iZ r2)] Z (fun v Z' => v = none ∧ Z' = mmov Z r.toNat r2.toNat) nX := by
  refine Ct.of (cc := cX1_move) (maxL := 4) (ret := none) rfl (by decide) rfl (Nat.le_of_ble_eq_true rfl) (fun J hJ => ?_)
  have hin : ∀ w ∈ u_ws RX1 TX1 3, w ∈ wsX1_move := by decide +kernel
  have loop : ∀ (n : Nat) (i : Int), 0 ≤ i → 2100 - i = n → J (zrw Z (r.toNat + 2) i.toNat (Z (r2.toNat + 2))) 0 2 [(0, .ref (a 0)), (1, .int (iZ r)), (2, .int (iZ r2)), (3, .int (iZ i))] [] := by
    intro n
    induction n with
    | zero =>
      intro i h0 hn
      refine j_iload_n hJ dX1_move_2 rfl ?_
      refine j_sipush hJ (by decide) dX1_move_3 ?_
      refine j_icmp_ge (tgt := 27) hJ (by decide) ⟨by omega, by omega⟩ ⟨by omega, by omega⟩ dX1_move_6 (fun h6 => ?_) (fun h6 => ?_)
      · refine j_aload_n hJ dX1_move_27 rfl ?_
        refine m_sign hJ hin (by decide +kernel) dX1_move_28 ?_
        refine j_iload_n hJ dX1_move_31 rfl ?_
        refine j_aload_n hJ dX1_move_32 rfl ?_
        refine m_sign hJ hin (by decide +kernel) dX1_move_33 ?_
        refine j_iload_n hJ dX1_move_36 rfl ?_
        refine m_ald_sg hJ ⟨by omega, by omega⟩ dX1_move_37 ?_
        refine m_ast_sg hJ ⟨by omega, by omega⟩ dX1_move_38 ?_
        exact j_vret hJ (Nat.le_of_ble_eq_true rfl) (⟨rfl, by rw [show i.toNat = 2100 by omega, zrw_off (j' := 1) (by omega)]; rfl⟩) dX1_move_39
      · omega
    | succ n ih =>
      intro i h0 hn
      have hsame : zrw Z (r.toNat + 2) i.toNat (Z (r2.toNat + 2)) (r2.toNat + 2) i.toNat = Z (r2.toNat + 2) i.toNat := by
        by_cases h : r2.toNat = r.toNat
        · rw [h, zrw_ge (Nat.le_refl _)]
        · rw [zrw_off (by omega)]
      refine j_iload_n hJ dX1_move_2 rfl ?_
      refine j_sipush hJ (by decide) dX1_move_3 ?_
      refine j_icmp_ge (tgt := 27) hJ (by decide) ⟨by omega, by omega⟩ ⟨by omega, by omega⟩ dX1_move_6 (fun h6 => ?_) (fun h6 => ?_)
      · omega
      · refine j_aload_n hJ dX1_move_9 rfl ?_
        refine j_iload_n hJ dX1_move_10 rfl ?_
        refine j_iload_n hJ dX1_move_11 rfl ?_
        refine j_aload_n hJ dX1_move_12 rfl ?_
        refine j_iload_n hJ dX1_move_13 rfl ?_
        refine j_iload_n hJ dX1_move_14 rfl ?_
        refine j_callV hJ (kX1_get l D cI a _ _ _ ⟨by omega, by omega⟩ ⟨by omega, by omega⟩) rfl gX1_move_X1_get rfl hdX1_get rfl ⟨Nat.le_of_ble_eq_true rfl, Nat.le_of_ble_eq_true rfl⟩ (Nat.le_of_ble_eq_true rfl) (Nat.le_of_ble_eq_true rfl) rfl rfl dX1_move_15 (fun _ _ h => False.elim h) (fun r15 Z15 hp15 => ?_)
        obtain ⟨rfl, rfl⟩ := hp15
        refine j_callV hJ (kX1_put l D cI a _ _ _ _ ⟨by omega, by omega⟩ ⟨by omega, by omega⟩) rfl gX1_move_X1_put rfl hdX1_put rfl ⟨Nat.le_of_ble_eq_true rfl, Nat.le_of_ble_eq_true rfl⟩ (Nat.le_of_ble_eq_true rfl) (Nat.le_of_ble_eq_true rfl) rfl rfl dX1_move_18 (fun _ _ h => False.elim h) (fun r18 Z18 hp18 => ?_)
        obtain ⟨rfl, rfl⟩ := hp18
        refine j_iinc hJ (by decide) dX1_move_21 rfl ?_
        refine j_goto (tgt := 2) hJ (by decide) dX1_move_24 ?_
        rw [hsame, zrw_succ, show i.toNat + 1 = (i + 1).toNat by omega]
        exact j_re hJ (ih (i + 1) (by omega) (by omega)) ⟨rfl, rfl, rfl, rfl, trivial⟩
  refine j_iconst hJ dX1_move_0 ?_
  refine j_istore_n hJ (by decide) dX1_move_1 ?_
  have h9 := loop 2100 0 (by omega) (by omega)
  rw [show (0 : Int).toNat = 0 from rfl, zrw_0] at h9
  exact j_re hJ h9 ⟨rfl, rfl, rfl, rfl, trivial⟩


set_option maxRecDepth 20000 in
theorem kX1_length (r : Int) (hr : 0 ≤ r ∧ r < 16) (hd : dgs 65536 2100 (Z (r.toNat + 2))) : Ct l D (tM cI) (wM cI a) yX1_length wsX1_length 1 0 22 [.ref (a 0), .int (iZ r)] Z (fun v Z' => v = some (.int (iZ (lenr (Z (r.toNat + 2)) 2100))) ∧ Z = Z') nX := by
  refine Ct.of (cc := cX1_length) (maxL := 3) (ret := some .int) rfl (by decide) rfl (Nat.le_of_ble_eq_true rfl) (fun J hJ => ?_)
  have loop : ∀ (n : Nat), n ≤ 2100 → lenr (Z (r.toNat + 2)) n = lenr (Z (r.toNat + 2)) 2100 → J Z 0 4 [(0, .ref (a 0)), (1, .int (iZ r)), (2, .int (iZ n))] [] := by
    intro n
    induction n with
    | zero =>
      intro h0 hn
      refine j_iload_n hJ dX1_length_4 rfl ?_
      refine j_if_le (tgt := 25) hJ (by decide) ⟨by omega, by omega⟩ dX1_length_5 (fun h5 => ?_) (fun h5 => ?_)
      · refine j_iload_n hJ dX1_length_25 rfl ?_
        exact j_iret hJ (Nat.le_of_ble_eq_true rfl) (⟨by rw [← hn]; rfl, rfl⟩) dX1_length_26
      · omega
    | succ n ih =>
      intro h0 hn
      have hdn := hd n (by omega)
      have e1 : ((((n + 1 : Nat) : Int)) - 1).toNat = n := by omega
      refine j_iload_n hJ dX1_length_4 rfl ?_
      refine j_if_le (tgt := 25) hJ (by decide) ⟨by omega, by omega⟩ dX1_length_5 (fun h5 => absurd h5 (by omega)) (fun h5 => ?_)
      refine j_aload_n hJ dX1_length_8 rfl ?_
      refine j_iload_n hJ dX1_length_9 rfl ?_
      refine j_iload_n hJ dX1_length_10 rfl ?_
      refine j_iconst hJ dX1_length_11 ?_
      refine j_isub hJ dX1_length_12 ?_
      refine j_callV hJ (kX1_get l D cI a _ _ _ ⟨by omega, by omega⟩ ⟨by omega, by omega⟩) rfl gX1_length_X1_get rfl hdX1_get rfl ⟨Nat.le_of_ble_eq_true rfl, Nat.le_of_ble_eq_true rfl⟩ (Nat.le_of_ble_eq_true rfl) (Nat.le_of_ble_eq_true rfl) rfl rfl dX1_length_13 (fun _ _ h => False.elim h) (fun r13 Z13 hp13 => ?_)
      obtain ⟨rfl, rfl⟩ := hp13
      rw [e1]
      rw [lenr_s] at hn
      refine j_if_ne (tgt := 25) hJ (by decide) ⟨by omega, by omega⟩ dX1_length_16 (fun h16 => ?_) (fun h16 => ?_)
      · refine j_iload_n hJ dX1_length_25 rfl ?_
        exact j_iret hJ (Nat.le_of_ble_eq_true rfl) (⟨by rw [if_neg h16] at hn; rw [← hn], rfl⟩) dX1_length_26
      · refine j_iinc hJ (by decide) dX1_length_19 rfl ?_
        refine j_goto (tgt := 4) hJ (by decide) dX1_length_22 ?_
        rw [if_pos h16] at hn
        exact j_re hJ (ih (by omega) hn) ⟨rfl, rfl, by show some (Value.int (iZ (((n + 1 : Nat) : Int) + -1))) = _; rw [show ((n + 1 : Nat) : Int) + -1 = n by omega], trivial⟩
  refine j_sipush hJ (by decide) dX1_length_0 ?_
  refine j_istore_n hJ (by decide) dX1_length_3 ?_
  exact j_re hJ (loop 2100 (by omega) rfl) ⟨rfl, rfl, rfl, trivial⟩
end M1
