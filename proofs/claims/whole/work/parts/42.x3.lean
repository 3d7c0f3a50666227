section RMX
variable {σ : Type} {l : Launch} {D : va_G} {tys : List (ClassId × FieldType)} {wf : σ → va_W} {cc : ByteArray} {nL : Nat} {Ts : List Cond} {own : String} {F km LL : Nat} {rt : Option FieldType} {post : Option Value → σ → Prop} {px : String → σ → Prop} {J : JT σ}
variable {x : σ} {k pc : Nat} {lv : List (Nat × Value)} {rest : List Value}
theorem j_max (hJ : IsJ l D tys wf cc nL Ts own F km LL rt post px J) {index : Nat} {a b z : Int} (ha : i32 a) (hb0 : i32 b) (hz : (a < b ∧ z = b) ∨ (b ≤ a ∧ z = a)) (w1 : Cond.methodLink own index Lib.Math.max.name ∈ Ts) (w2 : Cond.static Lib.Math.max.name ∈ Ts) (w3 : Cond.initialized "java/lang/Math" ∈ Ts) (w4 : Cond.code Lib.Math.max.name Lib.Math.max.code 2 (some .int) ∈ Ts) (hF : 1 ≤ F) (hL : (rest.map fun v => v.category).sum + 13 ≤ LL) (hk : k ≤ km) (hdg : decode cc pc = .ok (.invokestatic index, 3))
    (kk : J x k (pc + 3) lv (.int (iZ z) :: rest)) : J x k pc lv (.int (iZ b) :: .int (iZ a) :: rest) := by
  obtain ⟨p, e, s, m, args, below, meth, c, A, ⟨hx, hb, hml, hown, hts⟩, hE, hM, hK, hA, rfl⟩ := hJ
  intro H locs ls hw hl
  refine va_mmax hx hb (hml.trans hl.1.symm) hown (hts _ w1) (hts _ w2) (hts _ w3) (hts _ w4) hF hL hk (by show 6 * k ≤ 6 * km; omega) hdg ?_
  have e : (if iZ a < iZ b then iZ b else iZ a) = iZ z := by
    rcases hz with ⟨h1, rfl⟩ | ⟨h1, rfl⟩
    · rw [if_pos ((iZ_lt ha hb0).mpr h1)]
    · rw [if_neg (fun q => by have := (iZ_lt ha hb0).mp q; omega)]
  rw [e]
  exact kk H locs ls hw hl
theorem j_minl (hJ : IsJ l D tys wf cc nL Ts own F km LL rt post px J) {index : Nat} {a b z : Int} (ha : i64 a) (hb0 : i64 b) (hz : (b < a ∧ z = b) ∨ (a ≤ b ∧ z = a)) (w1 : Cond.methodLink own index Lib.MathLoose.min_long.x ∈ Ts) (w2 : Cond.static Lib.MathLoose.min_long.x ∈ Ts) (w3 : Cond.initialized "java/lang/Math" ∈ Ts) (w4 : Cond.code Lib.MathLoose.min_long.x Lib.MathLoose.min_long.code 4 (some .long) ∈ Ts) (hF : 1 ≤ F) (hL : (rest.map fun v => v.category).sum + 15 ≤ LL) (hk : k ≤ km) (hdg : decode cc pc = .ok (.invokestatic index, 3))
    (kk : J x k (pc + 3) lv (.long (lZ z) :: rest)) : J x k pc lv (.long (lZ b) :: .long (lZ a) :: rest) := by
  obtain ⟨p, e, s, m, args, below, meth, c, A, ⟨hx, hb, hml, hown, hts⟩, hE, hM, hK, hA, rfl⟩ := hJ
  intro H locs ls hw hl
  refine va_mmin_long hx hb (hml.trans hl.1.symm) hown (hts _ w1) (hts _ w2) (hts _ w3) (hts _ w4) hF hL hk (by show 6 * k ≤ 6 * km; omega) hdg ?_
  have e : (if lZ b < lZ a then lZ b else lZ a) = lZ z := by
    rcases hz with ⟨h1, rfl⟩ | ⟨h1, rfl⟩
    · rw [if_pos ((lZ_lt hb0 ha).mpr h1)]
    · rw [if_neg (fun q => by have := (lZ_lt hb0 ha).mp q; omega)]
  rw [e]
  exact kk H locs ls hw hl
end RMX
/-- the result row, filled with zeros and then with digits -/
theorem res_pack {Z : ZZ} {n : Nat} {f : Nat → Int} (hn : n ≤ 513) (hf : dgs 4294967296 n f) : ∃ h, zrw (zrw Z 2 513 (fun _ => 0)) 2 n f = zrw Z 2 513 h ∧ dgs 4294967296 513 h ∧ vs 4294967296 h 513 = vs 4294967296 f n ∧ ∀ i, n ≤ i → i < 513 → h i = 0 := by
  have hin : ∀ i, i < n → zrw (zrw Z 2 513 (fun _ => 0)) 2 n f 2 i = f i := fun i hi => zrw_in hi
  have hge : ∀ i, n ≤ i → i < 513 → zrw (zrw Z 2 513 (fun _ => 0)) 2 n f 2 i = 0 := fun i h1 h2 => by rw [zrw_ge h1, zrw_in h2]
  refine ⟨zrw (zrw Z 2 513 (fun _ => 0)) 2 n f 2, ?_, ?_, ?_, hge⟩
  · exact (zrw_self (Z := zrw Z 2 513 (fun _ => 0)) (j := 2) (n := n) (N := 513) (f := f) hn).trans (zrw_zrw (Nat.le_refl _))
  · intro i hi
    rcases Nat.lt_or_ge i n with q | q
    · rw [hin i q]; exact hf i q
    · rw [hge i q hi]; exact ⟨by omega, by omega⟩
  · rw [vs_top hn hge, vs_congr hin]
section X3
variable (l : Launch) (D : va_G) (cI cO : ClassId) (a : Nat → Nat) (Z : ZZ)
set_option maxRecDepth 20000 in
theorem kX0_orderOfSizes (g : Nat → Int) (hI : XI Z g) (r1 r2 : Int) (h1 : 0 ≤ r1 ∧ r1 < 12) (h2 : 0 ≤ r2 ∧ r2 < 12) : Ct l D (tX cI cO) (wX cI cO a) yX0_orderOfSizes wsX0_orderOfSizes 0 0 0 [.ref (a 0), .int (iZ r1), .int (iZ r2)] Z (fun v Z' => v = some (.int (iZ (cz ((g r1.toNat).natAbs) ((g r2.toNat).natAbs)))) ∧ Z = Z') nX := by
  refine Ct.of (cc := cX0_orderOfSizes) (maxL := 8) (ret := some .int) rfl (by decide) rfl (Nat.le_of_ble_eq_true rfl) (fun J hJ => ?_)
  have hin : ∀ w ∈ u_ws RX0 TX0 6, w ∈ wsX0_orderOfSizes := by decide +kernel
  have hlow : Jvm.Cond.constantLong RX0 108 4294967295 ∈ wsX0_orderOfSizes := by decide +kernel
  obtain ⟨d1, v1, s1, c1⟩ := hI.2 r1.toNat (by omega)
  obtain ⟨d2, v2, s2, c2⟩ := hI.2 r2.toNat (by omega)
  rw [← v1, ← v2] at hJ
  have l1 := lenr_le (Z (r1.toNat + 5)) 512
  have l2 := lenr_le (Z (r2.toNat + 5)) 512
  have cmp : ∀ {f1 f2 : Nat → Int}, dgs 4294967296 512 f1 → dgs 4294967296 512 f2 → lenr f1 512 < lenr f2 512 → vs 4294967296 f1 512 < vs 4294967296 f2 512 := fun {f1 f2} e1 e2 hlt => by
    have q1 := lenr_lt (B := 4294967296) (by decide) e1
    have q2 := lenr_ge (B := 4294967296) (by decide) e2 (by omega)
    have q3 := pw_mono (B := 4294967296) (by decide) (show lenr f1 512 ≤ lenr f2 512 - 1 by omega)
    omega
  have cmp1 := cmp d1 d2
  have cmp2 := cmp d2 d1
  have hc := cz_spec (vs 4294967296 (Z (r1.toNat + 5)) 512) (vs 4294967296 (Z (r2.toNat + 5)) 512)
  have hz1 := lenr_zero (Z (r1.toNat + 5)) 512
  have hz2 := lenr_zero (Z (r2.toNat + 5)) 512
  have pp : ∀ m, m < 512 → (∀ i, m + 1 ≤ i → i < 512 → Z (r1.toNat + 5) i = Z (r2.toNat + 5) i) → (Z (r1.toNat + 5) m < Z (r2.toNat + 5) m → vs 4294967296 (Z (r1.toNat + 5)) 512 < vs 4294967296 (Z (r2.toNat + 5)) 512) ∧ (Z (r2.toNat + 5) m < Z (r1.toNat + 5) m → vs 4294967296 (Z (r2.toNat + 5)) 512 < vs 4294967296 (Z (r1.toNat + 5)) 512) := fun m hm he =>
    ⟨vs_cmp (B := 4294967296) (by decide) d1 d2 (k := m) hm (fun i a1 a2 => he i a1 a2), vs_cmp (B := 4294967296) (by decide) d2 d1 (k := m) hm (fun i a1 a2 => (he i a1 a2).symm)⟩
  have veq : (∀ i, i < 512 → Z (r1.toNat + 5) i = Z (r2.toNat + 5) i) → vs 4294967296 (Z (r1.toNat + 5)) 512 = vs 4294967296 (Z (r2.toNat + 5)) 512 := fun h => vs_congr h
  generalize cz (vs 4294967296 (Z (r1.toNat + 5)) 512) (vs 4294967296 (Z (r2.toNat + 5)) 512) = z at hc hJ
  have loop : ∀ (m : Nat), m ≤ 512 → (∀ i, m ≤ i → i < 512 → Z (r1.toNat + 5) i = Z (r2.toNat + 5) i) → J Z 0 45 [(0, .ref (a 0)), (1, .int (iZ r1)), (2, .int (iZ r2)), (3, .int (iZ ((m : Int) - 1)))] [] := by
    intro m
    induction m with
    | zero =>
      intro hm he
      have hv := veq (fun i hi => he i (Nat.zero_le i) hi)
      refine j_iload_n hJ dX0_orderOfSizes_45 rfl ?_
      refine j_if_lt (tgt := 107) hJ (by decide) ⟨by omega, by omega⟩ dX0_orderOfSizes_46 (fun h46 => ?_) (fun h46 => ?_)
      · refine j_iconst hJ dX0_orderOfSizes_107 ?_
        exact j_iret hJ (Nat.le_of_ble_eq_true rfl) (⟨by rw [show z = 0 by omega], rfl⟩) dX0_orderOfSizes_108
      · omega
    | succ m ih =>
      intro hm he
      have q1 := d1 m (by omega)
      have q2 := d2 m (by omega)
      have e1 : (((m + 1 : Nat) : Int) - 1).toNat = m := by omega
      obtain ⟨p1, p2⟩ := pp m (by omega) he
      clear pp cmp1 cmp2 hz1 hz2
      refine j_iload_n hJ dX0_orderOfSizes_45 rfl ?_
      refine j_if_lt (tgt := 107) hJ (by decide) ⟨by omega, by omega⟩ dX0_orderOfSizes_46 (fun h46 => ?_) (fun h46 => ?_)
      · omega
      · refine j_aload_n hJ dX0_orderOfSizes_49 rfl ?_
        refine x_words hJ hin (by decide +kernel) dX0_orderOfSizes_50 ?_
        refine j_iload_n hJ dX0_orderOfSizes_53 rfl ?_
        refine x_row hJ ⟨by omega, by omega⟩ dX0_orderOfSizes_54 ?_
        refine j_iload_n hJ dX0_orderOfSizes_55 rfl ?_
        refine x_ald_w hJ (by omega) ⟨by omega, by omega⟩ dX0_orderOfSizes_56 ?_
        rw [e1]
        refine j_loww hJ hlow ⟨by omega, by omega⟩ dX0_orderOfSizes_57 dX0_orderOfSizes_58 dX0_orderOfSizes_61 ?_
        refine j_lstore hJ (by decide) dX0_orderOfSizes_62 ?_
        refine j_aload_n hJ dX0_orderOfSizes_64 rfl ?_
        refine x_words hJ hin (by decide +kernel) dX0_orderOfSizes_65 ?_
        refine j_iload_n hJ dX0_orderOfSizes_68 rfl ?_
        refine x_row hJ ⟨by omega, by omega⟩ dX0_orderOfSizes_69 ?_
        refine j_iload_n hJ dX0_orderOfSizes_70 rfl ?_
        refine x_ald_w hJ (by omega) ⟨by omega, by omega⟩ dX0_orderOfSizes_71 ?_
        rw [e1]
        refine j_loww hJ hlow ⟨by omega, by omega⟩ dX0_orderOfSizes_72 dX0_orderOfSizes_73 dX0_orderOfSizes_76 ?_
        refine j_lstore hJ (by decide) dX0_orderOfSizes_77 ?_
        refine j_lload hJ dX0_orderOfSizes_79 rfl ?_
        refine j_lload hJ dX0_orderOfSizes_81 rfl ?_
        refine j_lcmp_eq (tgt := 101) hJ (by decide) ⟨by omega, by omega⟩ ⟨by omega, by omega⟩ dX0_orderOfSizes_83 dX0_orderOfSizes_84 (fun h83 => ?_) (fun h83 => ?_)
        · have he2 : ∀ i, m ≤ i → i < 512 → Z (r1.toNat + 5) i = Z (r2.toNat + 5) i := fun i a1 a2 => (by by_cases q : i = m; rw [q]; exact h83; exact he i (by omega) a2)
          refine j_iinc hJ (by decide) dX0_orderOfSizes_101 rfl ?_
          refine j_goto (tgt := 45) hJ (by decide) dX0_orderOfSizes_104 ?_
          exact j_re hJ (ih (by omega) he2) ⟨rfl, rfl, rfl, by show some (Value.int (iZ (((m + 1 : Nat) : Int) - 1 + -1))) = _; rw [show ((m + 1 : Nat) : Int) - 1 + -1 = (m : Int) - 1 by omega], trivial⟩
        · refine j_lload hJ dX0_orderOfSizes_87 rfl ?_
          refine j_lload hJ dX0_orderOfSizes_89 rfl ?_
          refine j_lcmp_ge (tgt := 99) hJ (by decide) ⟨by omega, by omega⟩ ⟨by omega, by omega⟩ dX0_orderOfSizes_91 dX0_orderOfSizes_92 (fun h91 => ?_) (fun h91 => ?_)
          · refine j_iconst hJ dX0_orderOfSizes_99 ?_
            exact j_iret hJ (Nat.le_of_ble_eq_true rfl) (⟨by first | (have p3 := p1 (by omega); rw [show z = -1 by omega]) | (have p3 := p2 (by omega); rw [show z = 1 by omega]), rfl⟩) dX0_orderOfSizes_100
          · refine j_iconst hJ dX0_orderOfSizes_95 ?_
            refine j_goto (tgt := 100) hJ (by decide) dX0_orderOfSizes_96 ?_
            exact j_iret hJ (Nat.le_of_ble_eq_true rfl) (⟨by first | (have p3 := p1 (by omega); rw [show z = -1 by omega]) | (have p3 := p2 (by omega); rw [show z = 1 by omega]), rfl⟩) dX0_orderOfSizes_100
  refine j_aload_n hJ dX0_orderOfSizes_0 rfl ?_
  refine x_counts hJ hin (by decide +kernel) dX0_orderOfSizes_1 ?_
  refine j_iload_n hJ dX0_orderOfSizes_4 rfl ?_
  refine x_ald_c hJ ⟨by omega, by omega⟩ dX0_orderOfSizes_5 ?_
  refine j_aload_n hJ dX0_orderOfSizes_6 rfl ?_
  refine x_counts hJ hin (by decide +kernel) dX0_orderOfSizes_7 ?_
  refine j_iload_n hJ dX0_orderOfSizes_10 rfl ?_
  refine x_ald_c hJ ⟨by omega, by omega⟩ dX0_orderOfSizes_11 ?_
  rw [c1, c2]
  refine j_icmp_eq (tgt := 36) hJ (by decide) ⟨by omega, by omega⟩ ⟨by omega, by omega⟩ dX0_orderOfSizes_12 (fun h12 => ?_) (fun h12 => ?_)
  · refine j_aload_n hJ dX0_orderOfSizes_36 rfl ?_
    refine x_counts hJ hin (by decide +kernel) dX0_orderOfSizes_37 ?_
    refine j_iload_n hJ dX0_orderOfSizes_40 rfl ?_
    refine x_ald_c hJ ⟨by omega, by omega⟩ dX0_orderOfSizes_41 ?_
    rw [c1]
    refine j_iconst hJ dX0_orderOfSizes_42 ?_
    refine j_isub hJ dX0_orderOfSizes_43 ?_
    refine j_istore_n hJ (by decide) dX0_orderOfSizes_44 ?_
    exact j_re hJ (loop (lenr (Z (r1.toNat + 5)) 512) l1 (fun i a1 a2 => by rw [hz1 i a1 a2, hz2 i (by omega) a2])) ⟨rfl, rfl, rfl, rfl, trivial⟩
  · refine j_aload_n hJ dX0_orderOfSizes_15 rfl ?_
    refine x_counts hJ hin (by decide +kernel) dX0_orderOfSizes_16 ?_
    refine j_iload_n hJ dX0_orderOfSizes_19 rfl ?_
    refine x_ald_c hJ ⟨by omega, by omega⟩ dX0_orderOfSizes_20 ?_
    refine j_aload_n hJ dX0_orderOfSizes_21 rfl ?_
    refine x_counts hJ hin (by decide +kernel) dX0_orderOfSizes_22 ?_
    refine j_iload_n hJ dX0_orderOfSizes_25 rfl ?_
    refine x_ald_c hJ ⟨by omega, by omega⟩ dX0_orderOfSizes_26 ?_
    rw [c1, c2]
    refine j_icmp_ge (tgt := 34) hJ (by decide) ⟨by omega, by omega⟩ ⟨by omega, by omega⟩ dX0_orderOfSizes_27 (fun h27 => ?_) (fun h27 => ?_)
    · refine j_iconst hJ dX0_orderOfSizes_34 ?_
      exact j_iret hJ (Nat.le_of_ble_eq_true rfl) (⟨by first | (have p3 := cmp1 (by omega); rw [show z = -1 by omega]) | (have p3 := cmp2 (by omega); rw [show z = 1 by omega]), rfl⟩) dX0_orderOfSizes_35
    · refine j_iconst hJ dX0_orderOfSizes_30 ?_
      refine j_goto (tgt := 35) hJ (by decide) dX0_orderOfSizes_31 ?_
      exact j_iret hJ (Nat.le_of_ble_eq_true rfl) (⟨by first | (have p3 := cmp1 (by omega); rw [show z = -1 by omega]) | (have p3 := cmp2 (by omega); rw [show z = 1 by omega]), rfl⟩) dX0_orderOfSizes_35
set_option maxRecDepth 20000 in
theorem kX0_bitsOf (g : Nat → Int) (hI : XI Z g) (r : Int) (h1 : 0 ≤ r ∧ r < 12) : Ct l D (tX cI cO) (wX cI cO a) yX0_bitsOf wsX0_bitsOf 1 0 21 [.ref (a 0), .int (iZ r)] Z (fun v Z' => (∃ z : Nat, v = some (.int (iZ (z : Int))) ∧ nb ((g r.toNat).natAbs : Int) z ∧ z ≤ 16384 ∧ 32 * lenr (Z (r.toNat + 5)) 512 < z + 32 ∧ z ≤ 32 * lenr (Z (r.toNat + 5)) 512) ∧ Z = Z') nX := by
  refine Ct.of (cc := cX0_bitsOf) (maxL := 3) (ret := some .int) rfl (by decide) rfl (Nat.le_of_ble_eq_true rfl) (fun J hJ => ?_)
  have hin : ∀ w ∈ u_ws RX0 TX0 6, w ∈ wsX0_bitsOf := by decide +kernel
  obtain ⟨d1, v1, s1, c1⟩ := hI.2 r.toNat (by omega)
  rw [← v1] at hJ
  have l1 := lenr_le (Z (r.toNat + 5)) 512
  have ht := lenr_top (Z (r.toNat + 5)) 512
  have hv := vs_len 4294967296 (Z (r.toNat + 5)) 512
  rcases Nat.eq_zero_or_pos (lenr (Z (r.toNat + 5)) 512) with q0 | q0
  · rw [q0] at c1 hv
    refine j_aload_n hJ dX0_bitsOf_0 rfl ?_
    refine x_counts hJ hin (by decide +kernel) dX0_bitsOf_1 ?_
    refine j_iload_n hJ dX0_bitsOf_4 rfl ?_
    refine x_ald_c hJ ⟨by omega, by omega⟩ dX0_bitsOf_5 ?_
    rw [c1]
    refine j_istore_n hJ (by decide) dX0_bitsOf_6 ?_
    refine j_iload_n hJ dX0_bitsOf_7 rfl ?_
    refine j_if_ne (tgt := 13) hJ (by decide) ⟨by omega, by omega⟩ dX0_bitsOf_8 (fun h8 => ?_) (fun h8 => ?_)
    · omega
    · refine j_iconst hJ dX0_bitsOf_11 ?_
      exact j_iret hJ (Nat.le_of_ble_eq_true rfl) (⟨⟨0, rfl, by rw [hv]; exact nb_0, by omega, by omega, by omega⟩, rfl⟩) dX0_bitsOf_12
  · obtain ⟨m, hm⟩ : ∃ m, lenr (Z (r.toNat + 5)) 512 = m + 1 := ⟨lenr (Z (r.toNat + 5)) 512 - 1, by omega⟩
    rw [hm] at c1 hv ht hJ
    have q1 := d1 m (by omega)
    have hne : Z (r.toNat + 5) m ≠ 0 := ht.resolve_left (by omega)
    refine j_aload_n hJ dX0_bitsOf_0 rfl ?_
    refine x_counts hJ hin (by decide +kernel) dX0_bitsOf_1 ?_
    refine j_iload_n hJ dX0_bitsOf_4 rfl ?_
    refine x_ald_c hJ ⟨by omega, by omega⟩ dX0_bitsOf_5 ?_
    rw [c1]
    refine j_istore_n hJ (by decide) dX0_bitsOf_6 ?_
    refine j_iload_n hJ dX0_bitsOf_7 rfl ?_
    refine j_if_ne (tgt := 13) hJ (by decide) ⟨by omega, by omega⟩ dX0_bitsOf_8 (fun h8 => ?_) (fun h8 => ?_)
    · refine j_iload_n hJ dX0_bitsOf_13 rfl ?_
      refine j_iconst hJ dX0_bitsOf_14 ?_
      refine j_isub hJ dX0_bitsOf_15 ?_
      refine j_bipush hJ (by decide) dX0_bitsOf_16 ?_
      refine j_imul hJ dX0_bitsOf_18 ?_
      refine j_aload_n hJ dX0_bitsOf_19 rfl ?_
      refine x_words hJ hin (by decide +kernel) dX0_bitsOf_20 ?_
      refine j_iload_n hJ dX0_bitsOf_23 rfl ?_
      refine x_row hJ ⟨by omega, by omega⟩ dX0_bitsOf_24 ?_
      refine j_iload_n hJ dX0_bitsOf_25 rfl ?_
      refine j_iconst hJ dX0_bitsOf_26 ?_
      refine j_isub hJ dX0_bitsOf_27 ?_
      refine x_ald_w hJ (by omega) ⟨by omega, by omega⟩ dX0_bitsOf_28 ?_
      rw [show ((((m + 1 : Nat) : Int)) - 1).toNat = m by omega]
      refine j_callS hJ (kX0_bitsOfWord l D _ ⟨by omega, by omega⟩) rfl gX0_bitsOf_X0_bitsOfWord rfl hsX0_bitsOfWord rfl ⟨Nat.le_of_ble_eq_true rfl, Nat.le_of_ble_eq_true rfl⟩ (Nat.le_of_ble_eq_true rfl) (Nat.le_of_ble_eq_true rfl) dX0_bitsOf_29 (fun _ h => False.elim h) (fun r29 hp29 => ?_)
      obtain ⟨z, rfl, hz, hz2⟩ := hp29
      refine j_iadd hJ dX0_bitsOf_32 ?_
      exact j_iret hJ (Nat.le_of_ble_eq_true rfl) (⟨⟨32 * m + z, by rw [show (((m + 1 : Nat) : Int) - 1) * 32 + (z : Int) = ((32 * m + z : Nat) : Int) by omega], by rw [hv]; exact nb_top (b := 32) (fun i hi => d1 i (by omega)) hz (by rcases Nat.eq_zero_or_pos z with e | e; (subst e; have := hz.1; rw [Int.pow_zero] at this; omega); exact e), by omega, by (rcases Nat.eq_zero_or_pos z with e | e; (subst e; have := hz.1; rw [Int.pow_zero] at this; omega); omega), by omega⟩, rfl⟩) dX0_bitsOf_33
    · omega
end X3
