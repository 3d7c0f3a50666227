theorem vs_of {B X : Int} (hB : 0 < B) {f : Nat → Int} : ∀ {n : Nat}, (∀ k, k < n → f k = X / B ^ k % B) → vs B f n = X % B ^ n
  | 0, _ => by show (0 : Int) = _; rw [Int.pow_zero, Int.emod_one]
  | n + 1, h => by
    rw [vs_s, vs_of hB (fun k hk => h k (Nat.lt_succ_of_lt hk)), h n (Nat.lt_succ_self n)]
    have hp := pw_pos hB n
    have e1 := Int.mul_ediv_add_emod X (B ^ n)
    have e2 := Int.mul_ediv_add_emod (X / B ^ n) B
    have e3 : X / B ^ n / B = X / B ^ (n + 1) := by rw [pw_s, ← Int.ediv_ediv_of_nonneg (Int.le_of_lt hp)]
    have e4 := Int.mul_ediv_add_emod X (B ^ (n + 1))
    rw [e3] at e2
    rw [pw_s] at e4 ⊢
    rw [pw_s] at e2
    generalize X % B ^ n = u at *
    generalize X / B ^ n = q at *
    generalize q % B = w at *
    generalize X / (B ^ n * B) = y at *
    generalize X % (B ^ n * B) = z at *
    subst e2
    subst e4
    grind
theorem alg_up {V S K c t P w : Int} : V * S * K + (w * S - 4294967296 * t + c - c) * (P * K) + (t - 0) * (P * K * 4294967296) = (V + w * P) * S * K := by grind
section RPP
variable {l : Launch} {D : va_G} {cI cO : ClassId} {a : Nat → Nat} {cc : ByteArray} {nL : Nat} {Ts : List Cond} {F km LL : Nat} {rt : Option FieldType} {post : Option Value → ZZ → Prop} {px : String → ZZ → Prop} {J : JT ZZ}
variable {Z : ZZ} {k pc : Nat} {lv : List (Nat × Value)} {rest : List Value}
theorem x_ald_p (hJ : IsJ l D (tX cI cO) (wX cI cO a) cc nL Ts RX0 F km LL rt post px J) {i : Int} {j N : Nat} (hj : j < 17) (hN : xln j = N) (hi : 0 ≤ i ∧ i < N) (hdg : decode cc pc = .ok (.iaload, 1)) (kk : J Z k (pc + 1) lv (.int (iZ (Z j i.toNat)) :: rest)) : J Z k pc lv (.int (iZ i) :: .ref (a (j + 2)) :: rest) := x_ald hJ hj (by rw [hN]; exact hi) hdg kk
theorem x_ast_p (hJ : IsJ l D (tX cI cO) (wX cI cO a) cc nL Ts RX0 F km LL rt post px J) {i v : Int} {j N : Nat} (hj : j < 17) (hN : xln j = N) (hi : 0 ≤ i ∧ i < N) (hdg : decode cc pc = .ok (.iastore, 1)) (kk : J (zup Z j i.toNat v) k (pc + 1) lv rest) : J Z k pc lv (.int (iZ v) :: .int (iZ i) :: .ref (a (j + 2)) :: rest) := x_ast hJ hj (by rw [hN]; exact hi) hdg kk
end RPP
section X8
variable (l : Launch) (D : va_G) (cI cO : ClassId) (a : Nat → Nat) (Z : ZZ)
set_option maxRecDepth 20000 in
theorem kX0_moveUp (g : Nat → Int) (hI : XI Z g) (r : Int) (up j N : Nat) (hr : 0 ≤ r ∧ r < 12) (hup : up < 64) (hj : (j = 3 ∧ N = 514) ∨ (j = 4 ∧ N = 513)) (hfit : lenr (Z (r.toNat + 5)) 512 + up / 32 < N) : Ct l D (tX cI cO) (wX cI cO a) yX0_moveUp wsX0_moveUp 1 0 23 [.ref (a 0), .int (iZ r), .int (iZ (up : Int)), .ref (a (j + 2))] Z (fun v Z' => v = none ∧ ∃ h, Z' = zrw Z j N h ∧ dgs 4294967296 N h ∧ vs 4294967296 h N = ((g r.toNat).natAbs : Int) * 2 ^ up) nX := by
  refine Ct.of (cc := cX0_moveUp) (maxL := 9) (ret := none) rfl (by decide) rfl (Nat.le_of_ble_eq_true rfl) (fun J hJ => ?_)
  have hin : ∀ w ∈ u_ws RX0 TX0 6, w ∈ wsX0_moveUp := by decide +kernel
  have hlow : Jvm.Cond.constantLong RX0 108 4294967295 ∈ wsX0_moveUp := by decide +kernel
  have hx : xln j = N := by rcases hj with ⟨rfl, rfl⟩ | ⟨rfl, rfl⟩ <;> rfl
  have hj17 : j < 17 := by omega
  have hN5 : N ≤ 514 := by omega
  obtain ⟨d1, v1, s1, c1⟩ := hI.2 r.toNat (by omega)
  have l1 := lenr_le (Z (r.toNat + 5)) 512
  rw [vs_len 4294967296 (Z (r.toNat + 5)) 512] at v1
  generalize hn : lenr (Z (r.toNat + 5)) 512 = n at c1 l1 v1 hfit
  generalize hsk : up / 32 = sk at hfit
  generalize hsh : up % 32 = sh
  have hsh2 : sh < 32 := by omega
  have p2 : (2 : Int) ^ up = 2 ^ sh * 4294967296 ^ sk := by rw [show (4294967296 : Int) = 2 ^ 32 by decide, pw_mul, ← Int.pow_add, show sh + 32 * sk = up by omega]
  have hps := pw_pos (B := 2) (by decide) sh
  have p32 : (2 : Int) ^ sh * 2 ^ (32 - sh) = 4294967296 := by rw [← Int.pow_add, show sh + (32 - sh) = 32 by omega]; rfl
  have psm : (2 : Int) ^ sh ≤ 2147483648 := by
    have := pw_mono (B := 2) (by decide) (show sh ≤ 31 by omega)
    have e : (2 : Int) ^ 31 = 2147483648 := by decide
    omega
  have loop : ∀ (m k : Nat) (h : Nat → Int), k + m = n → dgs 4294967296 N h → h (k + sk) < 2 ^ sh → (∀ i, k + sk < i → i < N → h i = 0) → vs 4294967296 h N = vs 4294967296 (Z (r.toNat + 5)) k * 2 ^ sh * 4294967296 ^ sk → J (zrw Z j N h) 0 20 [(0, .ref (a 0)), (1, .int (iZ r)), (3, .ref (a (j + 2))), (4, .int (iZ (sk : Int))), (5, .int (iZ (sh : Int))), (6, .int (iZ (k : Int)))] [] := by
    intro m
    induction m with
    | zero =>
      intro k h hm hd hc hi hv
      have e0 : zrw Z j N h 0 = Z 0 := zrw_off (by omega)
      refine j_iload hJ dX0_moveUp_20 rfl ?_
      refine j_aload_n hJ dX0_moveUp_22 rfl ?_
      refine x_counts hJ hin (by decide +kernel) dX0_moveUp_23 ?_
      refine j_iload_n hJ dX0_moveUp_26 rfl ?_
      refine x_ald_c hJ ⟨by omega, by omega⟩ dX0_moveUp_27 ?_
      rw [e0, c1]
      refine j_icmp_ge (tgt := 84) hJ (by decide) ⟨by omega, by omega⟩ ⟨by omega, by omega⟩ dX0_moveUp_28 (fun h28 => ?_) (fun h28 => ?_)
      · exact j_vret hJ (Nat.le_of_ble_eq_true rfl) (⟨rfl, h, rfl, hd, by rw [hv, show k = n by omega, v1, p2]; grind⟩) dX0_moveUp_84
      · omega
    | succ m ih =>
      intro k h hm hd hc hi hv
      have e0 : zrw Z j N h 0 = Z 0 := zrw_off (by omega)
      have e1 : zrw Z j N h (r.toNat + 5) = Z (r.toNat + 5) := zrw_off (by omega)
      have e2 : zrw Z j N h j (k + sk) = h (k + sk) := zrw_in (by omega)
      have e3 : ((k : Nat) : Int).toNat = k := by omega
      have e4 : (((k : Nat) : Int) + ((sk : Nat) : Int)).toNat = k + sk := by omega
      have e5 : (((k : Nat) : Int) + ((sk : Nat) : Int) + 1).toNat = k + sk + 1 := by omega
      have q1 := d1 k (by omega)
      have q2 := hd (k + sk) (by omega)
      have q3 := hi (k + sk + 1) (by omega) (by omega)
      have hy0 : 0 ≤ Z (r.toNat + 5) k * 2 ^ sh := Int.mul_nonneg q1.1 (Int.le_of_lt hps)
      have hy1 : Z (r.toNat + 5) k * 2 ^ sh < 4294967296 * 2 ^ sh := Int.mul_lt_mul_of_pos_right q1.2 hps
      have hlo : Z (r.toNat + 5) k * 2 ^ sh % 4294967296 = (Z (r.toNat + 5) k % 2 ^ (32 - sh)) * ((2 ^ sh : Nat) : Int) := by
        rw [pw2_cast, ← p32, Int.mul_comm, Int.mul_emod_mul_of_pos _ _ hps, Int.mul_comm]
      generalize hy : Z (r.toNat + 5) k * 2 ^ sh = y at hy0 hy1 hlo
      have hy2 : y % 18446744073709551616 / ((2 ^ 32 : Nat) : Int) % 4294967296 = y / 4294967296 := by omega
      have hy3 : 0 ≤ y / 4294967296 ∧ y / 4294967296 < 2 ^ sh := by omega
      have hor : iZ (h (k + sk)) ||| iZ (y % 4294967296) = iZ (y % 4294967296 + h (k + sk)) := by
        rw [iZ_or_comm, hlo]
        exact iZ_or (n := sh) (by omega) ⟨q2.1, by rw [pw2_cast]; exact hc⟩
      have hsum : y % 4294967296 + h (k + sk) < 4294967296 := by
        rw [hlo, pw2_cast]
        have h5 := Int.emod_lt_of_pos (Z (r.toNat + 5) k) (pw_pos (B := 2) (by decide) (32 - sh))
        have h6 := Int.mul_le_mul_of_nonneg_right (show Z (r.toNat + 5) k % 2 ^ (32 - sh) + 1 ≤ 2 ^ (32 - sh) from h5) (Int.le_of_lt hps)
        rw [Int.mul_comm (2 ^ (32 - sh)) _, p32, Int.add_mul] at h6
        omega
      refine j_iload hJ dX0_moveUp_20 rfl ?_
      refine j_aload_n hJ dX0_moveUp_22 rfl ?_
      refine x_counts hJ hin (by decide +kernel) dX0_moveUp_23 ?_
      refine j_iload_n hJ dX0_moveUp_26 rfl ?_
      refine x_ald_c hJ ⟨by omega, by omega⟩ dX0_moveUp_27 ?_
      rw [e0, c1]
      refine j_icmp_ge (tgt := 84) hJ (by decide) ⟨by omega, by omega⟩ ⟨by omega, by omega⟩ dX0_moveUp_28 (fun h28 => ?_) (fun h28 => ?_)
      · omega
      · refine j_aload_n hJ dX0_moveUp_31 rfl ?_
        refine x_words hJ hin (by decide +kernel) dX0_moveUp_32 ?_
        refine j_iload_n hJ dX0_moveUp_35 rfl ?_
        refine x_row hJ ⟨by omega, by omega⟩ dX0_moveUp_36 ?_
        refine j_iload hJ dX0_moveUp_37 rfl ?_
        refine x_ald_w hJ (by omega) ⟨by omega, by omega⟩ dX0_moveUp_39 ?_
        rw [e1, e3]
        refine j_loww hJ hlow ⟨by omega, by omega⟩ dX0_moveUp_40 dX0_moveUp_41 dX0_moveUp_44 ?_
        refine j_iload hJ dX0_moveUp_45 rfl ?_
        refine j_lshl (n := sh) hJ (by omega) dX0_moveUp_47 ?_
        rw [pw2_cast, hy]
        refine j_lstore hJ (by decide) dX0_moveUp_48 ?_
        refine j_aload_n hJ dX0_moveUp_50 rfl ?_
        refine j_iload hJ dX0_moveUp_51 rfl ?_
        refine j_iload hJ dX0_moveUp_53 rfl ?_
        refine j_iadd hJ dX0_moveUp_55 ?_
        refine j_dup2 hJ rfl rfl dX0_moveUp_56 ?_
        refine x_ald_p hJ hj17 hx ⟨by omega, by omega⟩ dX0_moveUp_57 ?_
        rw [e4, e2]
        refine j_lload hJ dX0_moveUp_58 rfl ?_
        refine j_l2w hJ dX0_moveUp_60 ?_
        refine j_ior hJ hor dX0_moveUp_61 ?_
        refine x_ast_p hJ hj17 hx ⟨by omega, by omega⟩ dX0_moveUp_62 ?_
        rw [e4, zrw_upd (by omega)]
        refine j_aload_n hJ dX0_moveUp_63 rfl ?_
        refine j_iload hJ dX0_moveUp_64 rfl ?_
        refine j_iload hJ dX0_moveUp_66 rfl ?_
        refine j_iadd hJ dX0_moveUp_68 ?_
        refine j_iconst hJ dX0_moveUp_69 ?_
        refine j_iadd hJ dX0_moveUp_70 ?_
        refine j_lload hJ dX0_moveUp_71 rfl ?_
        refine j_bipush hJ (by decide) dX0_moveUp_73 ?_
        refine j_lushr (n := 32) hJ (by decide) dX0_moveUp_75 ?_
        refine j_l2w hJ dX0_moveUp_76 ?_
        rw [hy2]
        refine x_ast_p hJ hj17 hx ⟨by omega, by omega⟩ dX0_moveUp_77 ?_
        rw [e5, zrw_upd (by omega)]
        refine j_iinc hJ (by decide) dX0_moveUp_78 rfl ?_
        refine j_goto (tgt := 20) hJ (by decide) dX0_moveUp_81 ?_
        refine j_re hJ (ih (k + 1) _ (by omega) (dgs_upd (dgs_upd hd ⟨by omega, by omega⟩) ⟨by omega, by omega⟩) (by rw [show k + 1 + sk = k + sk + 1 by omega, fset_eq]; omega) (fun i i1 i2 => by rw [fset_ne (by omega), fset_ne (by omega)]; exact hi i (by omega) i2) ?_) ⟨rfl, rfl, rfl, rfl, rfl, rfl, trivial⟩
        rw [vs_upd _ (by omega), vs_upd _ (by omega), fset_ne (by omega), q3, hv, vs_s, pw_s, Int.pow_add]
        have hw : y % 4294967296 = y - 4294967296 * (y / 4294967296) := by omega
        rw [hw, ← hy]
        exact alg_up
  have zd : dgs 4294967296 N (fun _ => 0) := fun _ _ => ⟨by show (0 : Int) ≤ 0; decide, by show (0 : Int) < 4294967296; decide⟩
  refine j_aload_n hJ dX0_moveUp_0 rfl ?_
  refine j_iconst hJ dX0_moveUp_1 ?_
  refine x_fill hJ (j := j) (N := N) hj17 hx gX0_moveUp_J7_fill_53178 ⟨Nat.le_of_ble_eq_true rfl, Nat.le_of_ble_eq_true rfl⟩ (Nat.le_of_ble_eq_true rfl) (Nat.le_of_ble_eq_true rfl) dX0_moveUp_2 ?_
  refine j_iload_n hJ dX0_moveUp_5 rfl ?_
  refine j_bipush hJ (by decide) dX0_moveUp_6 ?_
  refine j_idiv hJ (by omega) ⟨by omega, by omega⟩ ⟨by omega, by omega⟩ (by omega) dX0_moveUp_8 ?_
  refine j_istore hJ (by decide) dX0_moveUp_9 ?_
  refine j_iload_n hJ dX0_moveUp_11 rfl ?_
  refine j_bipush hJ (by decide) dX0_moveUp_12 ?_
  refine j_irem hJ (by omega) ⟨by omega, by omega⟩ ⟨by omega, by omega⟩ (by omega) dX0_moveUp_14 ?_
  refine j_istore hJ (by decide) dX0_moveUp_15 ?_
  refine j_iconst hJ dX0_moveUp_17 ?_
  refine j_istore hJ (by decide) dX0_moveUp_18 ?_
  exact j_re hJ (loop n 0 (fun _ => 0) (by omega) zd (by omega) (fun _ _ _ => rfl) (by rw [vs_zero (fun _ _ => rfl)]; show (0 : Int) = 0 * _ * _; omega)) ⟨rfl, rfl, rfl, by show some (Value.int (iZ ((up : Int) / 32))) = _; rw [show (up : Int) / 32 = (sk : Int) by omega], by show some (Value.int (iZ ((up : Int) % 32))) = _; rw [show (up : Int) % 32 = (sh : Int) by omega], rfl, trivial⟩
set_option maxRecDepth 20000 in
theorem kX0_moveDown (n down j N : Nat) (hd0 : down ≤ 32) (hn : n ≤ 512) (hj : (j = 3 ∧ N = 514) ∨ (j = 4 ∧ N = 513)) (dj : dgs 4294967296 N (Z j)) : Ct l D (tX cI cO) (wX cI cO a) yX0_moveDown wsX0_moveDown 1 0 23 [.ref (a 0), .ref (a (j + 2)), .int (iZ (n : Int)), .int (iZ (down : Int))] Z (fun v Z' => v = none ∧ ∃ h, Z' = zrw Z 2 513 h ∧ dgs 4294967296 513 h ∧ h 512 = 0 ∧ vs 4294967296 h 513 = vs 4294967296 (Z j) n / 2 ^ down) nX := by
  refine Ct.of (cc := cX0_moveDown) (maxL := 7) (ret := none) rfl (by decide) rfl (Nat.le_of_ble_eq_true rfl) (fun J hJ => ?_)
  have hin : ∀ w ∈ u_ws RX0 TX0 6, w ∈ wsX0_moveDown := by decide +kernel
  have hx : xln j = N := by rcases hj with ⟨rfl, rfl⟩ | ⟨rfl, rfl⟩ <;> rfl
  have hj17 : j < 17 := by omega
  have dn : dgs 4294967296 n (Z j) := dgs_mono dj (by omega)
  have hV0 := vs_nonneg (B := 4294967296) (by decide) dn
  have hV1 := vs_lt (B := 4294967296) (by decide) dn
  have hpd := pw_pos (B := 2) (by decide) down
  have pd2 : (2 : Int) ^ down * 2 ^ (32 - down) = 4294967296 := by rw [← Int.pow_add, show down + (32 - down) = 32 by omega]; rfl
  have dig : ∀ k, k < n → ∀ hi : Int, (k + 1 < n ∧ hi = Z j (k + 1)) ∨ (n ≤ k + 1 ∧ hi = 0) → (hi * 4294967296 + Z j k) / 2 ^ down % 4294967296 = vs 4294967296 (Z j) n / 2 ^ down / 4294967296 ^ k % 4294967296 := by
    intro k hk hi hh
    obtain ⟨m, hm⟩ : ∃ m, n = k + (m + 1) := ⟨n - k - 1, by omega⟩
    have e1 : vs 4294967296 (Z j) n / 4294967296 ^ k = Z j k + 4294967296 * vs 4294967296 (fun i => Z j (k + (1 + i))) m := by
      rw [hm] at dn ⊢
      rw [vs_div (by decide) dn, vs_1]; rfl
    have e2 : ∃ t : Int, vs 4294967296 (fun i => Z j (k + (1 + i))) m = hi + 4294967296 * t := by
      rcases hh with ⟨h1, rfl⟩ | ⟨h1, rfl⟩
      · obtain ⟨m2, rfl⟩ : ∃ m2, m = m2 + 1 := ⟨m - 1, by omega⟩
        exact ⟨_, vs_1 _ _ _⟩
      · rw [show m = 0 by omega]
        exact ⟨0, rfl⟩
    obtain ⟨t, ht⟩ := e2
    rw [Int.ediv_ediv_of_nonneg (Int.le_of_lt hpd), Int.mul_comm (2 ^ down) _, ← Int.ediv_ediv_of_nonneg (Int.le_of_lt (pw_pos (by decide) k)), e1, ht]
    rw [show Z j k + 4294967296 * (hi + 4294967296 * t) = (hi * 4294967296 + Z j k) + 2 ^ down * (4294967296 * (2 ^ (32 - down) * t)) by (have e9 : (2 : Int) ^ down * (4294967296 * (2 ^ (32 - down) * t)) = 4294967296 * ((2 ^ down * 2 ^ (32 - down)) * t) := (by grind); rw [e9, pd2]; grind)]
    rw [Int.add_mul_ediv_left _ _ (Int.ne_of_gt hpd), Int.add_mul_emod_self_left]
  have key : ∀ (y w lo : Int), 0 ≤ w ∧ w < 4294967296 → i32 y → iZ y = iZ w → lZ (y * 4294967296 + lo) = lZ (w * 4294967296 + lo) := by
    intro y w lo hw hy e
    have e4 := iZ_u y
    rw [e, iZ_u] at e4
    rw [← lZ_mod (y * 4294967296 + _), ← lZ_mod (w * 4294967296 + _)]
    congr 1
    omega
  have loop : ∀ (m k : Nat) (f : Nat → Int), k + m = n → dgs 4294967296 k f → (∀ i, i < k → f i = vs 4294967296 (Z j) n / 2 ^ down / 4294967296 ^ i % 4294967296) → J (zrw (zrw Z 2 513 (fun _ => 0)) 2 k f) 0 11 [(0, .ref (a 0)), (1, .ref (a (j + 2))), (2, .int (iZ (n : Int))), (3, .int (iZ (down : Int))), (4, .int (iZ (k : Int)))] [] := by
    intro m
    induction m with
    | zero =>
      intro k f hm hd hf
      obtain ⟨h, p1, p2, p3, p4⟩ := res_pack (Z := Z) (n := k) (f := f) (by omega) hd
      have hk : k = n := by omega
      subst hk
      have hX0 : 0 ≤ vs 4294967296 (Z j) k / 2 ^ down := Int.ediv_nonneg hV0 (Int.le_of_lt hpd)
      have hX1 : vs 4294967296 (Z j) k / 2 ^ down < 4294967296 ^ k := Int.lt_of_le_of_lt (Int.ediv_le_self _ hV0) hV1
      refine j_iload hJ dX0_moveDown_11 rfl ?_
      refine j_iload_n hJ dX0_moveDown_13 rfl ?_
      refine j_icmp_ge (tgt := 63) hJ (by decide) ⟨by omega, by omega⟩ ⟨by omega, by omega⟩ dX0_moveDown_14 (fun h14 => ?_) (fun h14 => ?_)
      · exact j_vret hJ (Nat.le_of_ble_eq_true rfl) (⟨rfl, h, p1, p2, p4 512 (by omega) (by omega), by rw [p3, vs_of (by decide) hf, Int.emod_eq_of_lt hX0 hX1]⟩) dX0_moveDown_63
      · omega
    | succ m ih =>
      intro k f hm hd hf
      have ej : zrw (zrw Z 2 513 (fun _ => 0)) 2 k f j = Z j := by rw [zrw_off (by omega), zrw_off (by omega)]
      have e3 : ((k : Nat) : Int).toNat = k := by omega
      have e5 : (((k : Nat) : Int) + 1).toNat = k + 1 := by omega
      have q1 := dj k (by omega)
      have fin : ∀ hi : Int, 0 ≤ hi ∧ hi < 4294967296 → (k + 1 < n ∧ hi = Z j (k + 1)) ∨ (n ≤ k + 1 ∧ hi = 0) → ∀ y : Int, lZ (y * 4294967296 + Z j k) = lZ (hi * 4294967296 + Z j k) → J (zrw (zrw Z 2 513 (fun _ => 0)) 2 k f) 0 38 [(0, .ref (a 0)), (1, .ref (a (j + 2))), (2, .int (iZ (n : Int))), (3, .int (iZ (down : Int))), (4, .int (iZ (k : Int))), (5, .long (lZ y))] [] := by
        intro hi hb hh y hl
        have dd := dig k (by omega) hi hh
        have hP : (hi * 4294967296 + Z j k) % 18446744073709551616 = hi * 4294967296 + Z j k := Int.emod_eq_of_lt (by omega) (by omega)
        refine j_aload_n hJ dX0_moveDown_38 rfl ?_
        refine x_result hJ hin (by decide +kernel) dX0_moveDown_39 ?_
        refine j_iload hJ dX0_moveDown_42 rfl ?_
        refine j_lload hJ dX0_moveDown_44 rfl ?_
        refine j_aload_n hJ dX0_moveDown_46 rfl ?_
        refine j_iload hJ dX0_moveDown_47 rfl ?_
        refine x_ald_p hJ hj17 hx ⟨by omega, by omega⟩ dX0_moveDown_49 ?_
        rw [ej, e3]
        refine j_callS hJ (kX0_pairOf l D y (Z j k) q1) rfl gX0_moveDown_X0_pairOf rfl hsX0_pairOf rfl ⟨Nat.le_of_ble_eq_true rfl, Nat.le_of_ble_eq_true rfl⟩ (Nat.le_of_ble_eq_true rfl) (Nat.le_of_ble_eq_true rfl) dX0_moveDown_50 (fun _ h => False.elim h) (fun r50 hp50 => ?_)
        subst hp50
        rw [hl]
        refine j_iload_n hJ dX0_moveDown_53 rfl ?_
        refine j_lushr (n := down) hJ (by omega) dX0_moveDown_54 ?_
        rw [hP, pw2_cast]
        refine j_l2w hJ dX0_moveDown_55 ?_
        rw [dd]
        refine x_ast_r hJ ⟨by omega, by omega⟩ dX0_moveDown_56 ?_
        rw [e3, zrw_push]
        refine j_iinc hJ (by decide) dX0_moveDown_57 rfl ?_
        refine j_goto (tgt := 11) hJ (by decide) dX0_moveDown_60 ?_
        refine j_re hJ (ih (k + 1) _ (by omega) (dgs_push hd ⟨Int.emod_nonneg _ (by decide), Int.emod_lt_of_pos _ (by decide)⟩) (fun i hi2 => ?_)) ⟨rfl, rfl, rfl, rfl, rfl, trivial⟩
        by_cases q : i = k
        · rw [q, fset_eq]
        · rw [fset_ne q]; exact hf i (by omega)
      refine j_iload hJ dX0_moveDown_11 rfl ?_
      refine j_iload_n hJ dX0_moveDown_13 rfl ?_
      refine j_icmp_ge (tgt := 63) hJ (by decide) ⟨by omega, by omega⟩ ⟨by omega, by omega⟩ dX0_moveDown_14 (fun h14 => ?_) (fun h14 => ?_)
      · omega
      · refine j_iload hJ dX0_moveDown_17 rfl ?_
        refine j_iconst hJ dX0_moveDown_19 ?_
        refine j_iadd hJ dX0_moveDown_20 ?_
        refine j_iload_n hJ dX0_moveDown_21 rfl ?_
        refine j_icmp_ge (tgt := 35) hJ (by decide) ⟨by omega, by omega⟩ ⟨by omega, by omega⟩ dX0_moveDown_22 (fun h22 => ?_) (fun h22 => ?_)
        · refine j_lconst (z := 0) hJ (by decide) dX0_moveDown_35 ?_
          refine j_lstore hJ (by decide) dX0_moveDown_36 ?_
          first | exact j_re hJ (fin (Z j (k + 1)) q2 (by omega) _ hk) ⟨rfl, rfl, rfl, rfl, rfl, rfl, trivial⟩ | exact j_re hJ (fin 0 ⟨by omega, by omega⟩ (by omega) 0 rfl) ⟨rfl, rfl, rfl, rfl, rfl, rfl, trivial⟩
        · refine j_aload_n hJ dX0_moveDown_25 rfl ?_
          refine j_iload hJ dX0_moveDown_26 rfl ?_
          refine j_iconst hJ dX0_moveDown_28 ?_
          refine j_iadd hJ dX0_moveDown_29 ?_
          refine x_ald_p hJ hj17 hx ⟨by omega, by omega⟩ dX0_moveDown_30 ?_
          rw [ej, e5]
          rw [← iZ_of (iZ (Z j (k + 1)))]
          have hy : i32 (iZ (Z j (k + 1))).toInt := ⟨Int32.le_toInt _, Int32.toInt_lt _⟩
          have q2 := dj (k + 1) (by omega)
          have hk := key _ _ (Z j k) q2 hy (iZ_of _)
          generalize (iZ (Z j (k + 1))).toInt = y at hy hk ⊢
          refine j_i2l hJ hy dX0_moveDown_31 ?_
          refine j_goto (tgt := 36) hJ (by decide) dX0_moveDown_32 ?_
          refine j_lstore hJ (by decide) dX0_moveDown_36 ?_
          first | exact j_re hJ (fin (Z j (k + 1)) q2 (by omega) _ hk) ⟨rfl, rfl, rfl, rfl, rfl, rfl, trivial⟩ | exact j_re hJ (fin 0 ⟨by omega, by omega⟩ (by omega) 0 rfl) ⟨rfl, rfl, rfl, rfl, rfl, rfl, trivial⟩
  refine j_aload_n hJ dX0_moveDown_0 rfl ?_
  refine x_result hJ hin (by decide +kernel) dX0_moveDown_1 ?_
  refine j_iconst hJ dX0_moveDown_4 ?_
  refine x_fill hJ (j := 2) (N := 513) (by decide) rfl gX0_moveDown_J7_fill_53178 ⟨Nat.le_of_ble_eq_true rfl, Nat.le_of_ble_eq_true rfl⟩ (Nat.le_of_ble_eq_true rfl) (Nat.le_of_ble_eq_true rfl) dX0_moveDown_5 ?_
  refine j_iconst hJ dX0_moveDown_8 ?_
  refine j_istore hJ (by decide) dX0_moveDown_9 ?_
  have h9 := loop n 0 (fun _ => 0) (by omega) (dgs_0 _ _) (fun i hi => by omega)
  rw [zrw_0] at h9
  exact j_re hJ h9 ⟨rfl, rfl, rfl, rfl, rfl, trivial⟩
end X8
