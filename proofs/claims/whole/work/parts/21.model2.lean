section M2
variable (l : Launch) (D : va_G) (cI : ClassId) (a : Nat → Nat) (Z : ZZ)
set_option maxRecDepth 20000 in
theorem kX1_isBelow (r1 r2 n : Int) (h1 : 0 ≤ r1 ∧ r1 < 16) (h2 : 0 ≤ r2 ∧ r2 < 16) (hn : 0 ≤ n ∧ n ≤ 2100) (d1 : dgs 65536 2100 (Z (r1.toNat + 2))) (d2 : dgs 65536 2100 (Z (r2.toNat + 2))) : Ct l D (tM cI) (wM cI a) yX1_isBelow wsX1_isBelow 1 0 22 [.ref (a 0), .int (iZ r1), .int (iZ r2), .int (iZ n)] Z (fun v Z' => v = some (.int (iZ (if vs 65536 (Z (r1.toNat + 2)) n.toNat < vs 65536 (Z (r2.toNat + 2)) n.toNat then 1 else 0))) ∧ Z = Z') nX := by
  refine Ct.of (cc := cX1_isBelow) (maxL := 5) (ret := some .boolean) rfl (by decide) rfl (Nat.le_of_ble_eq_true rfl) (fun J hJ => ?_)
  have loop : ∀ (m : Nat), m ≤ n.toNat → (∀ i, m ≤ i → i < n.toNat → Z (r1.toNat + 2) i = Z (r2.toNat + 2) i) → J Z 0 5 [(0, .ref (a 0)), (1, .int (iZ r1)), (2, .int (iZ r2)), (3, .int (iZ n)), (4, .int (iZ ((m : Int) - 1)))] [] := by
    intro m
    induction m with
    | zero =>
      intro hm he
      refine j_iload hJ dX1_isBelow_5 rfl ?_
      refine j_if_lt (tgt := 56) hJ (by decide) ⟨by omega, by omega⟩ dX1_isBelow_7 (fun h7 => ?_) (fun h7 => ?_)
      · refine j_iconst hJ dX1_isBelow_56 ?_
        exact j_zret hJ (by decide) (Nat.le_of_ble_eq_true rfl) (⟨by rw [if_neg (by rw [vs_congr (fun i hi => he i (Nat.zero_le i) hi)]; omega)], rfl⟩) dX1_isBelow_57
      · omega
    | succ m ih =>
      intro hm he
      have q1 := d1 m (by omega)
      have q2 := d2 m (by omega)
      have e1 : (((m + 1 : Nat) : Int) - 1).toNat = m := by omega
      refine j_iload hJ dX1_isBelow_5 rfl ?_
      refine j_if_lt (tgt := 56) hJ (by decide) ⟨by omega, by omega⟩ dX1_isBelow_7 (fun h7 => ?_) (fun h7 => ?_)
      · omega
      · refine j_aload_n hJ dX1_isBelow_10 rfl ?_
        refine j_iload_n hJ dX1_isBelow_11 rfl ?_
        refine j_iload hJ dX1_isBelow_12 rfl ?_
        refine j_callV hJ (kX1_get l D cI a _ _ _ ⟨by omega, by omega⟩ ⟨by omega, by omega⟩) rfl gX1_isBelow_X1_get rfl hdX1_get rfl ⟨Nat.le_of_ble_eq_true rfl, Nat.le_of_ble_eq_true rfl⟩ (Nat.le_of_ble_eq_true rfl) (Nat.le_of_ble_eq_true rfl) rfl rfl dX1_isBelow_14 (fun _ _ h => False.elim h) (fun r14 Z14 hp14 => ?_)
        obtain ⟨rfl, rfl⟩ := hp14
        rw [e1]
        refine j_aload_n hJ dX1_isBelow_17 rfl ?_
        refine j_iload_n hJ dX1_isBelow_18 rfl ?_
        refine j_iload hJ dX1_isBelow_19 rfl ?_
        refine j_callV hJ (kX1_get l D cI a _ _ _ ⟨by omega, by omega⟩ ⟨by omega, by omega⟩) rfl gX1_isBelow_X1_get rfl hdX1_get rfl ⟨Nat.le_of_ble_eq_true rfl, Nat.le_of_ble_eq_true rfl⟩ (Nat.le_of_ble_eq_true rfl) (Nat.le_of_ble_eq_true rfl) rfl rfl dX1_isBelow_21 (fun _ _ h => False.elim h) (fun r21 Z21 hp21 => ?_)
        obtain ⟨rfl, rfl⟩ := hp21
        rw [e1]
        refine j_icmp_eq (tgt := 50) hJ (by decide) ⟨by omega, by omega⟩ ⟨by omega, by omega⟩ dX1_isBelow_24 (fun h24 => ?_) (fun h24 => ?_)
        · have he2 : ∀ i, m ≤ i → i < n.toNat → Z (r1.toNat + 2) i = Z (r2.toNat + 2) i := fun i a1 a2 => (by by_cases q : i = m; rw [q]; exact h24; exact he i (by omega) a2)
          refine j_iinc hJ (by decide) dX1_isBelow_50 rfl ?_
          refine j_goto (tgt := 5) hJ (by decide) dX1_isBelow_53 ?_
          exact j_re hJ (ih (by omega) he2) ⟨rfl, rfl, rfl, rfl, by show some (Value.int (iZ (((m + 1 : Nat) : Int) - 1 + -1))) = _; rw [show ((m + 1 : Nat) : Int) - 1 + -1 = (m : Int) - 1 by omega], trivial⟩
        · refine j_aload_n hJ dX1_isBelow_27 rfl ?_
          refine j_iload_n hJ dX1_isBelow_28 rfl ?_
          refine j_iload hJ dX1_isBelow_29 rfl ?_
          refine j_callV hJ (kX1_get l D cI a _ _ _ ⟨by omega, by omega⟩ ⟨by omega, by omega⟩) rfl gX1_isBelow_X1_get rfl hdX1_get rfl ⟨Nat.le_of_ble_eq_true rfl, Nat.le_of_ble_eq_true rfl⟩ (Nat.le_of_ble_eq_true rfl) (Nat.le_of_ble_eq_true rfl) rfl rfl dX1_isBelow_31 (fun _ _ h => False.elim h) (fun r31 Z31 hp31 => ?_)
          obtain ⟨rfl, rfl⟩ := hp31
          rw [e1]
          refine j_aload_n hJ dX1_isBelow_34 rfl ?_
          refine j_iload_n hJ dX1_isBelow_35 rfl ?_
          refine j_iload hJ dX1_isBelow_36 rfl ?_
          refine j_callV hJ (kX1_get l D cI a _ _ _ ⟨by omega, by omega⟩ ⟨by omega, by omega⟩) rfl gX1_isBelow_X1_get rfl hdX1_get rfl ⟨Nat.le_of_ble_eq_true rfl, Nat.le_of_ble_eq_true rfl⟩ (Nat.le_of_ble_eq_true rfl) (Nat.le_of_ble_eq_true rfl) rfl rfl dX1_isBelow_38 (fun _ _ h => False.elim h) (fun r38 Z38 hp38 => ?_)
          obtain ⟨rfl, rfl⟩ := hp38
          rw [e1]
          refine j_icmp_ge (tgt := 48) hJ (by decide) ⟨by omega, by omega⟩ ⟨by omega, by omega⟩ dX1_isBelow_41 (fun h41 => ?_) (fun h41 => ?_)
          · refine j_iconst hJ dX1_isBelow_48 ?_
            exact j_zret hJ (by decide) (Nat.le_of_ble_eq_true rfl) (⟨by first | rw [if_pos (vs_cmp (by decide) (dgs_mono d1 (by omega)) (dgs_mono d2 (by omega)) (k := m) (by omega) (fun i a1 a2 => he i a1 a2) (by omega))] | rw [if_neg (Int.not_lt.mpr (Int.le_of_lt (vs_cmp (by decide) (dgs_mono d2 (by omega)) (dgs_mono d1 (by omega)) (k := m) (by omega) (fun i a1 a2 => (he i a1 a2).symm) (by omega))))], rfl⟩) dX1_isBelow_49
          · refine j_iconst hJ dX1_isBelow_44 ?_
            refine j_goto (tgt := 49) hJ (by decide) dX1_isBelow_45 ?_
            exact j_zret hJ (by decide) (Nat.le_of_ble_eq_true rfl) (⟨by first | rw [if_pos (vs_cmp (by decide) (dgs_mono d1 (by omega)) (dgs_mono d2 (by omega)) (k := m) (by omega) (fun i a1 a2 => he i a1 a2) (by omega))] | rw [if_neg (Int.not_lt.mpr (Int.le_of_lt (vs_cmp (by decide) (dgs_mono d2 (by omega)) (dgs_mono d1 (by omega)) (k := m) (by omega) (fun i a1 a2 => (he i a1 a2).symm) (by omega))))], rfl⟩) dX1_isBelow_49
  refine j_iload_n hJ dX1_isBelow_0 rfl ?_
  refine j_iconst hJ dX1_isBelow_1 ?_
  refine j_isub hJ dX1_isBelow_2 ?_
  refine j_istore hJ (by decide) dX1_isBelow_3 ?_
  exact j_re hJ (loop n.toNat (by omega) (fun i a1 a2 => by omega)) ⟨rfl, rfl, rfl, rfl, by show some (Value.int (iZ (n - 1))) = _; rw [show ((n.toNat : Nat) : Int) - 1 = n - 1 by omega], trivial⟩
set_option maxRecDepth 20000 in
theorem kX1_order (r1 r2 : Int) (h1 : 0 ≤ r1 ∧ r1 < 16) (h2 : 0 ≤ r2 ∧ r2 < 16) (d1 : dgs 65536 2100 (Z (r1.toNat + 2))) (d2 : dgs 65536 2100 (Z (r2.toNat + 2))) : Ct l D (tM cI) (wM cI a) yX1_order wsX1_order 1 0 22 [.ref (a 0), .int (iZ r1), .int (iZ r2)] Z (fun v Z' => v = some (.int (iZ (cz (vs 65536 (Z (r1.toNat + 2)) 2100) (vs 65536 (Z (r2.toNat + 2)) 2100)))) ∧ Z = Z') nX := by
  refine Ct.of (cc := cX1_order) (maxL := 4) (ret := some .int) rfl (by decide) rfl (Nat.le_of_ble_eq_true rfl) (fun J hJ => ?_)
  have hc := cz_spec (vs 65536 (Z (r1.toNat + 2)) 2100) (vs 65536 (Z (r2.toNat + 2)) 2100)
  generalize hz : cz (vs 65536 (Z (r1.toNat + 2)) 2100) (vs 65536 (Z (r2.toNat + 2)) 2100) = z at hc hJ
  have loop : ∀ (m : Nat), m ≤ 2100 → (∀ i, m ≤ i → i < 2100 → Z (r1.toNat + 2) i = Z (r2.toNat + 2) i) → J Z 0 4 [(0, .ref (a 0)), (1, .int (iZ r1)), (2, .int (iZ r2)), (3, .int (iZ ((m : Int) - 1)))] [] := by
    intro m
    induction m with
    | zero =>
      intro hm he
      have hv := vs_congr (B := 65536) (fun i hi => he i (Nat.zero_le i) hi)
      refine j_iload_n hJ dX1_order_4 rfl ?_
      refine j_if_lt (tgt := 50) hJ (by decide) ⟨by omega, by omega⟩ dX1_order_5 (fun h5 => ?_) (fun h5 => ?_)
      · refine j_iconst hJ dX1_order_50 ?_
        exact j_iret hJ (Nat.le_of_ble_eq_true rfl) (⟨by rw [show z = 0 by omega], rfl⟩) dX1_order_51
      · omega
    | succ m ih =>
      intro hm he
      have q1 := d1 m (by omega)
      have q2 := d2 m (by omega)
      have e1 : (((m + 1 : Nat) : Int) - 1).toNat = m := by omega
      have p1 := vs_cmp (B := 65536) (by decide) d1 d2 (k := m) (by omega) (fun i a1 a2 => he i a1 a2)
      have p2 := vs_cmp (B := 65536) (by decide) d2 d1 (k := m) (by omega) (fun i a1 a2 => (he i a1 a2).symm)
      refine j_iload_n hJ dX1_order_4 rfl ?_
      refine j_if_lt (tgt := 50) hJ (by decide) ⟨by omega, by omega⟩ dX1_order_5 (fun h5 => ?_) (fun h5 => ?_)
      · omega
      · refine j_aload_n hJ dX1_order_8 rfl ?_
        refine j_iload_n hJ dX1_order_9 rfl ?_
        refine j_iload_n hJ dX1_order_10 rfl ?_
        refine j_callV hJ (kX1_get l D cI a _ _ _ ⟨by omega, by omega⟩ ⟨by omega, by omega⟩) rfl gX1_order_X1_get rfl hdX1_get rfl ⟨Nat.le_of_ble_eq_true rfl, Nat.le_of_ble_eq_true rfl⟩ (Nat.le_of_ble_eq_true rfl) (Nat.le_of_ble_eq_true rfl) rfl rfl dX1_order_11 (fun _ _ h => False.elim h) (fun r11 Z11 hp11 => ?_)
        obtain ⟨rfl, rfl⟩ := hp11
        rw [e1]
        refine j_aload_n hJ dX1_order_14 rfl ?_
        refine j_iload_n hJ dX1_order_15 rfl ?_
        refine j_iload_n hJ dX1_order_16 rfl ?_
        refine j_callV hJ (kX1_get l D cI a _ _ _ ⟨by omega, by omega⟩ ⟨by omega, by omega⟩) rfl gX1_order_X1_get rfl hdX1_get rfl ⟨Nat.le_of_ble_eq_true rfl, Nat.le_of_ble_eq_true rfl⟩ (Nat.le_of_ble_eq_true rfl) (Nat.le_of_ble_eq_true rfl) rfl rfl dX1_order_17 (fun _ _ h => False.elim h) (fun r17 Z17 hp17 => ?_)
        obtain ⟨rfl, rfl⟩ := hp17
        rw [e1]
        refine j_icmp_eq (tgt := 44) hJ (by decide) ⟨by omega, by omega⟩ ⟨by omega, by omega⟩ dX1_order_20 (fun h20 => ?_) (fun h20 => ?_)
        · have he2 : ∀ i, m ≤ i → i < 2100 → Z (r1.toNat + 2) i = Z (r2.toNat + 2) i := fun i a1 a2 => (by by_cases q : i = m; rw [q]; exact h20; exact he i (by omega) a2)
          refine j_iinc hJ (by decide) dX1_order_44 rfl ?_
          refine j_goto (tgt := 4) hJ (by decide) dX1_order_47 ?_
          exact j_re hJ (ih (by omega) he2) ⟨rfl, rfl, rfl, by show some (Value.int (iZ (((m + 1 : Nat) : Int) - 1 + -1))) = _; rw [show ((m + 1 : Nat) : Int) - 1 + -1 = (m : Int) - 1 by omega], trivial⟩
        · refine j_aload_n hJ dX1_order_23 rfl ?_
          refine j_iload_n hJ dX1_order_24 rfl ?_
          refine j_iload_n hJ dX1_order_25 rfl ?_
          refine j_callV hJ (kX1_get l D cI a _ _ _ ⟨by omega, by omega⟩ ⟨by omega, by omega⟩) rfl gX1_order_X1_get rfl hdX1_get rfl ⟨Nat.le_of_ble_eq_true rfl, Nat.le_of_ble_eq_true rfl⟩ (Nat.le_of_ble_eq_true rfl) (Nat.le_of_ble_eq_true rfl) rfl rfl dX1_order_26 (fun _ _ h => False.elim h) (fun r26 Z26 hp26 => ?_)
          obtain ⟨rfl, rfl⟩ := hp26
          rw [e1]
          refine j_aload_n hJ dX1_order_29 rfl ?_
          refine j_iload_n hJ dX1_order_30 rfl ?_
          refine j_iload_n hJ dX1_order_31 rfl ?_
          refine j_callV hJ (kX1_get l D cI a _ _ _ ⟨by omega, by omega⟩ ⟨by omega, by omega⟩) rfl gX1_order_X1_get rfl hdX1_get rfl ⟨Nat.le_of_ble_eq_true rfl, Nat.le_of_ble_eq_true rfl⟩ (Nat.le_of_ble_eq_true rfl) (Nat.le_of_ble_eq_true rfl) rfl rfl dX1_order_32 (fun _ _ h => False.elim h) (fun r32 Z32 hp32 => ?_)
          obtain ⟨rfl, rfl⟩ := hp32
          rw [e1]
          refine j_icmp_ge (tgt := 42) hJ (by decide) ⟨by omega, by omega⟩ ⟨by omega, by omega⟩ dX1_order_35 (fun h35 => ?_) (fun h35 => ?_)
          · refine j_iconst hJ dX1_order_42 ?_
            exact j_iret hJ (Nat.le_of_ble_eq_true rfl) (⟨by first | (have p3 := p1 (by omega); rw [show z = -1 by omega]) | (have p3 := p2 (by omega); rw [show z = 1 by omega]), rfl⟩) dX1_order_43
          · refine j_iconst hJ dX1_order_38 ?_
            refine j_goto (tgt := 43) hJ (by decide) dX1_order_39 ?_
            exact j_iret hJ (Nat.le_of_ble_eq_true rfl) (⟨by first | (have p3 := p1 (by omega); rw [show z = -1 by omega]) | (have p3 := p2 (by omega); rw [show z = 1 by omega]), rfl⟩) dX1_order_43
  refine j_sipush hJ (by decide) dX1_order_0 ?_
  refine j_istore_n hJ (by decide) dX1_order_3 ?_
  exact j_re hJ (loop 2100 (by omega) (fun i a1 a2 => by omega)) ⟨rfl, rfl, rfl, rfl, trivial⟩
end M2
