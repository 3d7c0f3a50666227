section M3
variable (l : Launch) (D : va_G) (cI : ClassId) (a : Nat → Nat) (Z : ZZ)
set_option maxRecDepth 20000 in
theorem kX1_less (r r1 r2 : Int) (h0 : 0 ≤ r ∧ r < 16) (h1 : 0 ≤ r1 ∧ r1 < 16) (h2 : 0 ≤ r2 ∧ r2 < 16) (hn1 : r ≠ r1) (hn2 : r ≠ r2) (d1 : dgs 65536 2100 (Z (r1.toNat + 2))) (d2 : dgs 65536 2100 (Z (r2.toNat + 2))) (hle : vs 65536 (Z (r2.toNat + 2)) 2100 ≤ vs 65536 (Z (r1.toNat + 2)) 2100) :
    Ct l D (tM cI) (wM cI a) yX1_less wsX1_less 1 0 23 [.ref (a 0), .int (iZ r), .int (iZ r1), .int (iZ r2)] Z (fun v Z' => v = none ∧ ∃ f, Z' = zrw Z (r.toNat + 2) 2100 f ∧ dgs 65536 2100 f ∧ vs 65536 f 2100 = vs 65536 (Z (r1.toNat + 2)) 2100 - vs 65536 (Z (r2.toNat + 2)) 2100) nX := by
  refine Ct.of (cc := cX1_less) (maxL := 7) (ret := none) rfl (by decide) rfl (Nat.le_of_ble_eq_true rfl) (fun J hJ => ?_)
  have loop : ∀ (m n : Nat) (f : Nat → Int) (c : Int), n + m = 2100 → dgs 65536 n f → (c = 0 ∨ c = 1) → vs 65536 f n = vs 65536 (Z (r1.toNat + 2)) n - vs 65536 (Z (r2.toNat + 2)) n + c * 65536 ^ n → J (zrw Z (r.toNat + 2) n f) 0 6 [(0, .ref (a 0)), (1, .int (iZ r)), (2, .int (iZ r1)), (3, .int (iZ r2)), (4, .int (iZ c)), (5, .int (iZ n))] [] := by
    intro m
    induction m with
    | zero =>
      intro n f c hm hd hc hv
      have hn : n = 2100 := by omega
      subst hn
      have hlt := vs_lt (B := 65536) (by decide) hd
      have hc0 : c = 0 := by
        rcases hc with q | q
        · exact q
        · rw [q] at hv; omega
      rw [hc0] at hv
      refine j_iload hJ dX1_less_6 rfl ?_
      refine j_sipush hJ (by decide) dX1_less_8 ?_
      refine j_icmp_ge (tgt := 67) hJ (by decide) ⟨by omega, by omega⟩ ⟨by omega, by omega⟩ dX1_less_11 (fun h11 => ?_) (fun h11 => ?_)
      · exact j_vret hJ (Nat.le_of_ble_eq_true rfl) (⟨rfl, f, rfl, hd, by omega⟩) dX1_less_67
      · omega
    | succ m ih =>
      intro n f c hm hd hc hv
      have q1 := d1 n (by omega)
      have q2 := d2 n (by omega)
      have e1 : zrw Z (r.toNat + 2) n f (r1.toNat + 2) = Z (r1.toNat + 2) := zrw_off (by omega)
      have e2 : zrw Z (r.toNat + 2) n f (r2.toNat + 2) = Z (r2.toNat + 2) := zrw_off (by omega)
      have e3 : ((n : Nat) : Int).toNat = n := by omega
      refine j_iload hJ dX1_less_6 rfl ?_
      refine j_sipush hJ (by decide) dX1_less_8 ?_
      refine j_icmp_ge (tgt := 67) hJ (by decide) ⟨by omega, by omega⟩ ⟨by omega, by omega⟩ dX1_less_11 (fun h11 => ?_) (fun h11 => ?_)
      · omega
      · refine j_aload_n hJ dX1_less_14 rfl ?_
        refine j_iload_n hJ dX1_less_15 rfl ?_
        refine j_iload hJ dX1_less_16 rfl ?_
        refine j_callV hJ (kX1_get l D cI a _ _ _ ⟨by omega, by omega⟩ ⟨by omega, by omega⟩) rfl gX1_less_X1_get rfl hdX1_get rfl ⟨Nat.le_of_ble_eq_true rfl, Nat.le_of_ble_eq_true rfl⟩ (Nat.le_of_ble_eq_true rfl) (Nat.le_of_ble_eq_true rfl) rfl rfl dX1_less_18 (fun _ _ h => False.elim h) (fun r18 Z18 hp18 => ?_)
        obtain ⟨rfl, rfl⟩ := hp18
        rw [e1, e3]
        refine j_aload_n hJ dX1_less_21 rfl ?_
        refine j_iload_n hJ dX1_less_22 rfl ?_
        refine j_iload hJ dX1_less_23 rfl ?_
        refine j_callV hJ (kX1_get l D cI a _ _ _ ⟨by omega, by omega⟩ ⟨by omega, by omega⟩) rfl gX1_less_X1_get rfl hdX1_get rfl ⟨Nat.le_of_ble_eq_true rfl, Nat.le_of_ble_eq_true rfl⟩ (Nat.le_of_ble_eq_true rfl) (Nat.le_of_ble_eq_true rfl) rfl rfl dX1_less_25 (fun _ _ h => False.elim h) (fun r25 Z25 hp25 => ?_)
        obtain ⟨rfl, rfl⟩ := hp25
        rw [e2, e3]
        refine j_isub hJ dX1_less_28 ?_
        refine j_iload hJ dX1_less_29 rfl ?_
        refine j_isub hJ dX1_less_31 ?_
        refine j_istore hJ (by decide) dX1_less_32 ?_
        refine j_iload hJ dX1_less_34 rfl ?_
        refine j_if_ge (tgt := 43) hJ (by decide) ⟨by omega, by omega⟩ dX1_less_36 (fun h36 => ?_) (fun h36 => ?_)
        · refine j_iconst hJ dX1_less_43 ?_
          refine j_istore hJ (by decide) dX1_less_44 ?_
          refine j_aload_n hJ dX1_less_46 rfl ?_
          refine j_iload_n hJ dX1_less_47 rfl ?_
          refine j_iload hJ dX1_less_48 rfl ?_
          refine j_iload hJ dX1_less_50 rfl ?_
          refine j_iload hJ dX1_less_52 rfl ?_
          refine j_bipush hJ (by decide) dX1_less_54 ?_
          refine j_ishl (n := 16) hJ (by decide) dX1_less_56 ?_
          refine j_iadd hJ dX1_less_57 ?_
          refine j_callV hJ (kX1_put l D cI a _ _ _ _ ⟨by omega, by omega⟩ ⟨by omega, by omega⟩) rfl gX1_less_X1_put rfl hdX1_put rfl ⟨Nat.le_of_ble_eq_true rfl, Nat.le_of_ble_eq_true rfl⟩ (Nat.le_of_ble_eq_true rfl) (Nat.le_of_ble_eq_true rfl) rfl rfl dX1_less_58 (fun _ _ h => False.elim h) (fun r58 Z58 hp58 => ?_)
          obtain ⟨rfl, rfl⟩ := hp58
          rw [e3, zrw_push]
          refine j_iinc hJ (by decide) dX1_less_61 rfl ?_
          refine j_goto (tgt := 6) hJ (by decide) dX1_less_64 ?_
          first | exact j_re hJ (ih (n + 1) _ 0 (by omega) (dgs_push hd ⟨by omega, by omega⟩) (Or.inl rfl) (by rw [vs_push, vs_s, vs_s, pw_s, hv]; grind)) ⟨rfl, rfl, rfl, rfl, rfl, rfl, trivial⟩ | exact j_re hJ (ih (n + 1) _ 1 (by omega) (dgs_push hd ⟨by omega, by omega⟩) (Or.inr rfl) (by rw [vs_push, vs_s, vs_s, pw_s, hv]; grind)) ⟨rfl, rfl, rfl, rfl, rfl, rfl, trivial⟩
        · refine j_iconst hJ dX1_less_39 ?_
          refine j_goto (tgt := 44) hJ (by decide) dX1_less_40 ?_
          refine j_istore hJ (by decide) dX1_less_44 ?_
          refine j_aload_n hJ dX1_less_46 rfl ?_
          refine j_iload_n hJ dX1_less_47 rfl ?_
          refine j_iload hJ dX1_less_48 rfl ?_
          refine j_iload hJ dX1_less_50 rfl ?_
          refine j_iload hJ dX1_less_52 rfl ?_
          refine j_bipush hJ (by decide) dX1_less_54 ?_
          refine j_ishl (n := 16) hJ (by decide) dX1_less_56 ?_
          refine j_iadd hJ dX1_less_57 ?_
          refine j_callV hJ (kX1_put l D cI a _ _ _ _ ⟨by omega, by omega⟩ ⟨by omega, by omega⟩) rfl gX1_less_X1_put rfl hdX1_put rfl ⟨Nat.le_of_ble_eq_true rfl, Nat.le_of_ble_eq_true rfl⟩ (Nat.le_of_ble_eq_true rfl) (Nat.le_of_ble_eq_true rfl) rfl rfl dX1_less_58 (fun _ _ h => False.elim h) (fun r58 Z58 hp58 => ?_)
          obtain ⟨rfl, rfl⟩ := hp58
          rw [e3, zrw_push]
          refine j_iinc hJ (by decide) dX1_less_61 rfl ?_
          refine j_goto (tgt := 6) hJ (by decide) dX1_less_64 ?_
          first | exact j_re hJ (ih (n + 1) _ 0 (by omega) (dgs_push hd ⟨by omega, by omega⟩) (Or.inl rfl) (by rw [vs_push, vs_s, vs_s, pw_s, hv]; grind)) ⟨rfl, rfl, rfl, rfl, rfl, rfl, trivial⟩ | exact j_re hJ (ih (n + 1) _ 1 (by omega) (dgs_push hd ⟨by omega, by omega⟩) (Or.inr rfl) (by rw [vs_push, vs_s, vs_s, pw_s, hv]; grind)) ⟨rfl, rfl, rfl, rfl, rfl, rfl, trivial⟩
  refine j_iconst hJ dX1_less_0 ?_
  refine j_istore hJ (by decide) dX1_less_1 ?_
  refine j_iconst hJ dX1_less_3 ?_
  refine j_istore hJ (by decide) dX1_less_4 ?_
  have h9 := loop 2100 0 (fun _ => 0) 0 (by omega) (dgs_0 _ _) (Or.inl rfl) (by show (0 : Int) = 0 - 0 + 0 * 65536 ^ 0; decide)
  rw [zrw_0] at h9
  exact j_re hJ h9 ⟨rfl, rfl, rfl, rfl, rfl, rfl, trivial⟩
set_option maxRecDepth 20000 in
theorem kX1_lessBy (r1 r2 n9 : Int) (h1 : 0 ≤ r1 ∧ r1 < 16) (h2 : 0 ≤ r2 ∧ r2 < 16) (hn9 : 0 ≤ n9 ∧ n9 ≤ 2100) (hn2 : r1 ≠ r2) (d1 : dgs 65536 2100 (Z (r1.toNat + 2))) (d2 : dgs 65536 2100 (Z (r2.toNat + 2))) (hle : vs 65536 (Z (r2.toNat + 2)) n9.toNat ≤ vs 65536 (Z (r1.toNat + 2)) n9.toNat) :
    Ct l D (tM cI) (wM cI a) yX1_lessBy wsX1_lessBy 1 0 23 [.ref (a 0), .int (iZ r1), .int (iZ r2), .int (iZ n9)] Z (fun v Z' => v = none ∧ ∃ f, Z' = zrw Z (r1.toNat + 2) n9.toNat f ∧ dgs 65536 n9.toNat f ∧ vs 65536 f n9.toNat = vs 65536 (Z (r1.toNat + 2)) n9.toNat - vs 65536 (Z (r2.toNat + 2)) n9.toNat) nX := by
  refine Ct.of (cc := cX1_lessBy) (maxL := 7) (ret := none) rfl (by decide) rfl (Nat.le_of_ble_eq_true rfl) (fun J hJ => ?_)
  have loop : ∀ (m n : Nat) (f : Nat → Int) (c : Int), n + m = n9.toNat → dgs 65536 n f → (c = 0 ∨ c = 1) → vs 65536 f n = vs 65536 (Z (r1.toNat + 2)) n - vs 65536 (Z (r2.toNat + 2)) n + c * 65536 ^ n → J (zrw Z (r1.toNat + 2) n f) 0 6 [(0, .ref (a 0)), (1, .int (iZ r1)), (2, .int (iZ r2)), (3, .int (iZ n9)), (4, .int (iZ c)), (5, .int (iZ n))] [] := by
    intro m
    induction m with
    | zero =>
      intro n f c hm hd hc hv
      have hn : n = n9.toNat := by omega
      rw [hn] at hd hv ⊢
      have hlt := vs_lt (B := 65536) (by decide) hd
      have hc0 : c = 0 := by
        rcases hc with q | q
        · exact q
        · rw [q] at hv; omega
      rw [hc0] at hv
      refine j_iload hJ dX1_lessBy_6 rfl ?_
      refine j_iload_n hJ dX1_lessBy_8 rfl ?_
      refine j_icmp_ge (tgt := 65) hJ (by decide) ⟨by omega, by omega⟩ ⟨by omega, by omega⟩ dX1_lessBy_9 (fun h9 => ?_) (fun h9 => ?_)
      · exact j_vret hJ (Nat.le_of_ble_eq_true rfl) (⟨rfl, f, rfl, hd, by omega⟩) dX1_lessBy_65
      · omega
    | succ m ih =>
      intro n f c hm hd hc hv
      have q1 := d1 n (by omega)
      have q2 := d2 n (by omega)
      have e1 : zrw Z (r1.toNat + 2) n f (r1.toNat + 2) n = Z (r1.toNat + 2) n := zrw_ge (Nat.le_refl n)
      have e2 : zrw Z (r1.toNat + 2) n f (r2.toNat + 2) = Z (r2.toNat + 2) := zrw_off (by omega)
      have e3 : ((n : Nat) : Int).toNat = n := by omega
      refine j_iload hJ dX1_lessBy_6 rfl ?_
      refine j_iload_n hJ dX1_lessBy_8 rfl ?_
      refine j_icmp_ge (tgt := 65) hJ (by decide) ⟨by omega, by omega⟩ ⟨by omega, by omega⟩ dX1_lessBy_9 (fun h9 => ?_) (fun h9 => ?_)
      · omega
      · refine j_aload_n hJ dX1_lessBy_12 rfl ?_
        refine j_iload_n hJ dX1_lessBy_13 rfl ?_
        refine j_iload hJ dX1_lessBy_14 rfl ?_
        refine j_callV hJ (kX1_get l D cI a _ _ _ ⟨by omega, by omega⟩ ⟨by omega, by omega⟩) rfl gX1_lessBy_X1_get rfl hdX1_get rfl ⟨Nat.le_of_ble_eq_true rfl, Nat.le_of_ble_eq_true rfl⟩ (Nat.le_of_ble_eq_true rfl) (Nat.le_of_ble_eq_true rfl) rfl rfl dX1_lessBy_16 (fun _ _ h => False.elim h) (fun r16 Z16 hp16 => ?_)
        obtain ⟨rfl, rfl⟩ := hp16
        rw [e3, e1]
        refine j_aload_n hJ dX1_lessBy_19 rfl ?_
        refine j_iload_n hJ dX1_lessBy_20 rfl ?_
        refine j_iload hJ dX1_lessBy_21 rfl ?_
        refine j_callV hJ (kX1_get l D cI a _ _ _ ⟨by omega, by omega⟩ ⟨by omega, by omega⟩) rfl gX1_lessBy_X1_get rfl hdX1_get rfl ⟨Nat.le_of_ble_eq_true rfl, Nat.le_of_ble_eq_true rfl⟩ (Nat.le_of_ble_eq_true rfl) (Nat.le_of_ble_eq_true rfl) rfl rfl dX1_lessBy_23 (fun _ _ h => False.elim h) (fun r23 Z23 hp23 => ?_)
        obtain ⟨rfl, rfl⟩ := hp23
        rw [e2, e3]
        refine j_isub hJ dX1_lessBy_26 ?_
        refine j_iload hJ dX1_lessBy_27 rfl ?_
        refine j_isub hJ dX1_lessBy_29 ?_
        refine j_istore hJ (by decide) dX1_lessBy_30 ?_
        refine j_iload hJ dX1_lessBy_32 rfl ?_
        refine j_if_ge (tgt := 41) hJ (by decide) ⟨by omega, by omega⟩ dX1_lessBy_34 (fun h34 => ?_) (fun h34 => ?_)
        · refine j_iconst hJ dX1_lessBy_41 ?_
          refine j_istore hJ (by decide) dX1_lessBy_42 ?_
          refine j_aload_n hJ dX1_lessBy_44 rfl ?_
          refine j_iload_n hJ dX1_lessBy_45 rfl ?_
          refine j_iload hJ dX1_lessBy_46 rfl ?_
          refine j_iload hJ dX1_lessBy_48 rfl ?_
          refine j_iload hJ dX1_lessBy_50 rfl ?_
          refine j_bipush hJ (by decide) dX1_lessBy_52 ?_
          refine j_ishl (n := 16) hJ (by decide) dX1_lessBy_54 ?_
          refine j_iadd hJ dX1_lessBy_55 ?_
          refine j_callV hJ (kX1_put l D cI a _ _ _ _ ⟨by omega, by omega⟩ ⟨by omega, by omega⟩) rfl gX1_lessBy_X1_put rfl hdX1_put rfl ⟨Nat.le_of_ble_eq_true rfl, Nat.le_of_ble_eq_true rfl⟩ (Nat.le_of_ble_eq_true rfl) (Nat.le_of_ble_eq_true rfl) rfl rfl dX1_lessBy_56 (fun _ _ h => False.elim h) (fun r56 Z56 hp56 => ?_)
          obtain ⟨rfl, rfl⟩ := hp56
          rw [e3, zrw_push]
          refine j_iinc hJ (by decide) dX1_lessBy_59 rfl ?_
          refine j_goto (tgt := 6) hJ (by decide) dX1_lessBy_62 ?_
          first | exact j_re hJ (ih (n + 1) _ 0 (by omega) (dgs_push hd ⟨by omega, by omega⟩) (Or.inl rfl) (by rw [vs_push, vs_s, vs_s, pw_s, hv]; grind)) ⟨rfl, rfl, rfl, rfl, rfl, rfl, trivial⟩ | exact j_re hJ (ih (n + 1) _ 1 (by omega) (dgs_push hd ⟨by omega, by omega⟩) (Or.inr rfl) (by rw [vs_push, vs_s, vs_s, pw_s, hv]; grind)) ⟨rfl, rfl, rfl, rfl, rfl, rfl, trivial⟩
        · refine j_iconst hJ dX1_lessBy_37 ?_
          refine j_goto (tgt := 42) hJ (by decide) dX1_lessBy_38 ?_
          refine j_istore hJ (by decide) dX1_lessBy_42 ?_
          refine j_aload_n hJ dX1_lessBy_44 rfl ?_
          refine j_iload_n hJ dX1_lessBy_45 rfl ?_
          refine j_iload hJ dX1_lessBy_46 rfl ?_
          refine j_iload hJ dX1_lessBy_48 rfl ?_
          refine j_iload hJ dX1_lessBy_50 rfl ?_
          refine j_bipush hJ (by decide) dX1_lessBy_52 ?_
          refine j_ishl (n := 16) hJ (by decide) dX1_lessBy_54 ?_
          refine j_iadd hJ dX1_lessBy_55 ?_
          refine j_callV hJ (kX1_put l D cI a _ _ _ _ ⟨by omega, by omega⟩ ⟨by omega, by omega⟩) rfl gX1_lessBy_X1_put rfl hdX1_put rfl ⟨Nat.le_of_ble_eq_true rfl, Nat.le_of_ble_eq_true rfl⟩ (Nat.le_of_ble_eq_true rfl) (Nat.le_of_ble_eq_true rfl) rfl rfl dX1_lessBy_56 (fun _ _ h => False.elim h) (fun r56 Z56 hp56 => ?_)
          obtain ⟨rfl, rfl⟩ := hp56
          rw [e3, zrw_push]
          refine j_iinc hJ (by decide) dX1_lessBy_59 rfl ?_
          refine j_goto (tgt := 6) hJ (by decide) dX1_lessBy_62 ?_
          first | exact j_re hJ (ih (n + 1) _ 0 (by omega) (dgs_push hd ⟨by omega, by omega⟩) (Or.inl rfl) (by rw [vs_push, vs_s, vs_s, pw_s, hv]; grind)) ⟨rfl, rfl, rfl, rfl, rfl, rfl, trivial⟩ | exact j_re hJ (ih (n + 1) _ 1 (by omega) (dgs_push hd ⟨by omega, by omega⟩) (Or.inr rfl) (by rw [vs_push, vs_s, vs_s, pw_s, hv]; grind)) ⟨rfl, rfl, rfl, rfl, rfl, rfl, trivial⟩
  refine j_iconst hJ dX1_lessBy_0 ?_
  refine j_istore hJ (by decide) dX1_lessBy_1 ?_
  refine j_iconst hJ dX1_lessBy_3 ?_
  refine j_istore hJ (by decide) dX1_lessBy_4 ?_
  have h9 := loop n9.toNat 0 (fun _ => 0) 0 (by omega) (dgs_0 _ _) (Or.inl rfl) (by show (0 : Int) = 0 - 0 + 0 * 65536 ^ 0; decide)
  rw [zrw_0] at h9
  exact j_re hJ h9 ⟨rfl, rfl, rfl, rfl, rfl, rfl, trivial⟩
set_option maxRecDepth 20000 in
theorem kX1_shift (r : Int) (b : Nat) (low n9 : Int) (h1 : 0 ≤ r ∧ r < 16) (hb : b = 1 ∨ b = 2) (hlow : 0 ≤ low ∧ low < ((2 ^ b : Nat) : Int)) (hn9 : 0 ≤ n9 ∧ n9 ≤ 2100) (d1 : dgs 65536 2100 (Z (r.toNat + 2))) (hfit : vs 65536 (Z (r.toNat + 2)) n9.toNat * ((2 ^ b : Nat) : Int) + low < 65536 ^ n9.toNat) :
    Ct l D (tM cI) (wM cI a) yX1_shift wsX1_shift 1 0 23 [.ref (a 0), .int (iZ r), .int (iZ (b : Int)), .int (iZ low), .int (iZ n9)] Z (fun v Z' => v = none ∧ ∃ f, Z' = zrw Z (r.toNat + 2) n9.toNat f ∧ dgs 65536 n9.toNat f ∧ vs 65536 f n9.toNat = vs 65536 (Z (r.toNat + 2)) n9.toNat * ((2 ^ b : Nat) : Int) + low) nX := by
  refine Ct.of (cc := cX1_shift) (maxL := 8) (ret := none) rfl (by decide) rfl (Nat.le_of_ble_eq_true rfl) (fun J hJ => ?_)
  have key : ∀ d c : Int, 0 ≤ d ∧ d < 65536 → 0 ≤ c ∧ c < ((2 ^ b : Nat) : Int) → 0 ≤ d * ((2 ^ b : Nat) : Int) + c ∧ d * ((2 ^ b : Nat) : Int) + c < 1000000 ∧ (d * ((2 ^ b : Nat) : Int) + c) / 65536 < ((2 ^ b : Nat) : Int) ∧ 0 ≤ (d * ((2 ^ b : Nat) : Int) + c) / 65536 := by
    rcases hb with rfl | rfl <;> (intro d c q1 q2; omega)
  have loop : ∀ (m n : Nat) (f : Nat → Int) (c : Int), n + m = n9.toNat → dgs 65536 n f → (0 ≤ c ∧ c < ((2 ^ b : Nat) : Int)) → vs 65536 f n + c * 65536 ^ n = vs 65536 (Z (r.toNat + 2)) n * ((2 ^ b : Nat) : Int) + low → J (zrw Z (r.toNat + 2) n f) 0 6 [(0, .ref (a 0)), (1, .int (iZ r)), (2, .int (iZ (b : Int))), (4, .int (iZ n9)), (5, .int (iZ c)), (6, .int (iZ n))] [] := by
    intro m
    induction m with
    | zero =>
      intro n f c hm hd hc hv
      have hn : n = n9.toNat := by omega
      rw [hn] at hd hv ⊢
      have hnn := vs_nonneg (B := 65536) (by decide) hd
      have hp := pw_pos (B := 65536) (by decide) n9.toNat
      have hc0 : c = 0 := by
        rcases Int.lt_or_le 0 c with q | q
        · have := Int.mul_le_mul_of_nonneg_right (show 1 ≤ c from q) (Int.le_of_lt hp)
          omega
        · omega
      rw [hc0] at hv
      refine j_iload hJ dX1_shift_6 rfl ?_
      refine j_iload hJ dX1_shift_8 rfl ?_
      refine j_icmp_ge (tgt := 52) hJ (by decide) ⟨by omega, by omega⟩ ⟨by omega, by omega⟩ dX1_shift_10 (fun h10 => ?_) (fun h10 => ?_)
      · exact j_vret hJ (Nat.le_of_ble_eq_true rfl) (⟨rfl, f, rfl, hd, by omega⟩) dX1_shift_52
      · omega
    | succ m ih =>
      intro n f c hm hd hc hv
      have q1 := d1 n (by omega)
      have e1 : zrw Z (r.toNat + 2) n f (r.toNat + 2) n = Z (r.toNat + 2) n := zrw_ge (Nat.le_refl n)
      have e3 : ((n : Nat) : Int).toNat = n := by omega
      obtain ⟨k1, k2, k3, k4⟩ := key _ _ q1 hc
      refine j_iload hJ dX1_shift_6 rfl ?_
      refine j_iload hJ dX1_shift_8 rfl ?_
      refine j_icmp_ge (tgt := 52) hJ (by decide) ⟨by omega, by omega⟩ ⟨by omega, by omega⟩ dX1_shift_10 (fun h10 => ?_) (fun h10 => ?_)
      · omega
      · refine j_aload_n hJ dX1_shift_13 rfl ?_
        refine j_iload_n hJ dX1_shift_14 rfl ?_
        refine j_iload hJ dX1_shift_15 rfl ?_
        refine j_callV hJ (kX1_get l D cI a _ _ _ ⟨by omega, by omega⟩ ⟨by omega, by omega⟩) rfl gX1_shift_X1_get rfl hdX1_get rfl ⟨Nat.le_of_ble_eq_true rfl, Nat.le_of_ble_eq_true rfl⟩ (Nat.le_of_ble_eq_true rfl) (Nat.le_of_ble_eq_true rfl) rfl rfl dX1_shift_17 (fun _ _ h => False.elim h) (fun r17 Z17 hp17 => ?_)
        obtain ⟨rfl, rfl⟩ := hp17
        rw [e3, e1]
        refine j_iload_n hJ dX1_shift_20 rfl ?_
        refine j_ishl (n := b) hJ (by omega) dX1_shift_21 ?_
        refine j_iload hJ dX1_shift_22 rfl ?_
        refine j_ior hJ (iZ_or (n := b) (by omega) hc) dX1_shift_24 ?_
        refine j_istore hJ (by decide) dX1_shift_25 ?_
        refine j_aload_n hJ dX1_shift_27 rfl ?_
        refine j_iload_n hJ dX1_shift_28 rfl ?_
        refine j_iload hJ dX1_shift_29 rfl ?_
        refine j_iload hJ dX1_shift_31 rfl ?_
        refine j_ldc (v := 65535) (z := 65535) hJ (by decide) (by decide +kernel) dX1_shift_33 ?_
        refine j_iand hJ (iZ_low16 _) dX1_shift_35 ?_
        refine j_callV hJ (kX1_put l D cI a _ _ _ _ ⟨by omega, by omega⟩ ⟨by omega, by omega⟩) rfl gX1_shift_X1_put rfl hdX1_put rfl ⟨Nat.le_of_ble_eq_true rfl, Nat.le_of_ble_eq_true rfl⟩ (Nat.le_of_ble_eq_true rfl) (Nat.le_of_ble_eq_true rfl) rfl rfl dX1_shift_36 (fun _ _ h => False.elim h) (fun r36 Z36 hp36 => ?_)
        obtain ⟨rfl, rfl⟩ := hp36
        rw [e3, zrw_push]
        refine j_iload hJ dX1_shift_39 rfl ?_
        refine j_bipush hJ (by decide) dX1_shift_41 ?_
        refine j_ishr (n := 16) hJ (by decide) ⟨by omega, by omega⟩ dX1_shift_43 ?_
        refine j_istore hJ (by decide) dX1_shift_44 ?_
        refine j_iinc hJ (by decide) dX1_shift_46 rfl ?_
        refine j_goto (tgt := 6) hJ (by decide) dX1_shift_49 ?_
        refine j_re hJ (ih (n + 1) _ ((Z (r.toNat + 2) n * ((2 ^ b : Nat) : Int) + c) / 65536) (by omega) (dgs_push hd ⟨by omega, by omega⟩) ⟨k4, k3⟩ ?_) ⟨rfl, rfl, rfl, rfl, rfl, rfl, trivial⟩
        rw [vs_push, vs_s, pw_s]
        have hw : (Z (r.toNat + 2) n * ((2 ^ b : Nat) : Int) + c) % 65536 = (Z (r.toNat + 2) n * ((2 ^ b : Nat) : Int) + c) - 65536 * ((Z (r.toNat + 2) n * ((2 ^ b : Nat) : Int) + c) / 65536) := by omega
        rw [hw]
        grind
  refine j_iload_n hJ dX1_shift_0 rfl ?_
  refine j_istore hJ (by decide) dX1_shift_1 ?_
  refine j_iconst hJ dX1_shift_3 ?_
  refine j_istore hJ (by decide) dX1_shift_4 ?_
  have h9 := loop n9.toNat 0 (fun _ => 0) low (by omega) (dgs_0 _ _) hlow (by show (0 : Int) + low * 65536 ^ 0 = 0 * _ + low; rw [Int.pow_zero]; omega)
  rw [zrw_0] at h9
  exact j_re hJ h9 ⟨rfl, rfl, rfl, rfl, rfl, rfl, trivial⟩
end M3
