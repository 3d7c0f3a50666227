section M5
variable (l : Launch) (D : va_G) (cI : ClassId) (a : Nat → Nat) (Z : ZZ)
theorem sum_sg {s1 s2 v1 v2 s : Int} (h1 : sgOK s1 v1) (h2 : sgOK s2 v2) (hs : s1 = s2 ∨ s1 = 0 ∨ s2 = 0) (e : (s1 = 0 ∧ s = s2) ∨ (¬ s1 = 0 ∧ s = s1)) : (s = 0 ∨ s = 1 ∨ s = -1) ∧ s * (v1 + v2) = s1 * v1 + s2 * v2 ∧ (s = 0 → v1 + v2 = 0) := by
  rcases h1 with ⟨rfl, p2⟩ | ⟨rfl, p2⟩ | ⟨rfl, p2⟩ <;> rcases h2 with ⟨rfl, q2⟩ | ⟨rfl, q2⟩ | ⟨rfl, q2⟩ <;> rcases e with ⟨e1, rfl⟩ | ⟨e1, rfl⟩ <;> omega
theorem sub_sg {s1 s2 v1 v2 : Int} (h1 : sgOK s1 v1) (h2 : sgOK s2 v2) (n1 : ¬ s1 = s2) (n2 : ¬ s1 = 0) (n3 : ¬ s2 = 0) : s1 * (v1 - v2) = s1 * v1 + s2 * v2 ∧ s2 * (v2 - v1) = s1 * v1 + s2 * v2 := by
  rcases h1 with ⟨rfl, p2⟩ | ⟨rfl, p2⟩ | ⟨rfl, p2⟩ <;> rcases h2 with ⟨rfl, q2⟩ | ⟨rfl, q2⟩ | ⟨rfl, q2⟩ <;> omega
set_option maxRecDepth 20000 in
theorem kX1_sum (d1 : dgs 65536 2100 (Z 16)) (d2 : dgs 65536 2100 (Z 17)) (s1 : sgOK (Z 1 14) (vs 65536 (Z 16) 2100)) (s2 : sgOK (Z 1 15) (vs 65536 (Z 17) 2100)) (l1 : vs 65536 (Z 16) 2100 < LIM) (l2 : vs 65536 (Z 17) 2100 < LIM) :
    Ct l D (tM cI) (wM cI a) yX1_sum wsX1_sum 2 0 49 [.ref (a 0)] Z (fun v Z' => v = none ∧ ∃ f s, Z' = zup (zrw Z 14 2100 f) 1 12 s ∧ dgs 65536 2100 f ∧ (s = 0 ∨ s = 1 ∨ s = -1) ∧ s * vs 65536 f 2100 = Z 1 14 * vs 65536 (Z 16) 2100 + Z 1 15 * vs 65536 (Z 17) 2100 ∧ (s = 0 → vs 65536 f 2100 = 0)) nX := by
  refine Ct.of (cc := cX1_sum) (maxL := 4) (ret := none) rfl (by decide) rfl (Nat.le_of_ble_eq_true rfl) (fun J hJ => ?_)
  have hin : ∀ w ∈ u_ws RX1 TX1 3, w ∈ wsX1_sum := by decide +kernel
  have e14 : (14 : Int).toNat = 14 := rfl
  have e15 : (15 : Int).toNat = 15 := rfl
  have t1 := s1
  have t2 := s2
  unfold sgOK at t1 t2
  have n1 := vs_nonneg (B := 65536) (by decide) d1
  have n2 := vs_nonneg (B := 65536) (by decide) d2
  have loop : (Z 1 14 = Z 1 15 ∨ Z 1 14 = 0 ∨ Z 1 15 = 0) → ∀ (m n : Nat) (f : Nat → Int) (c : Int), n + m = 2100 → dgs 65536 n f → (c = 0 ∨ c = 1) → vs 65536 f n + c * 65536 ^ n = vs 65536 (Z 16) n + vs 65536 (Z 17) n → J (zrw Z 14 n f) 0 41 [(0, .ref (a 0)), (1, .int (iZ c)), (2, .int (iZ n))] [] := by
    intro hs m
    induction m with
    | zero =>
      intro n f c hm hd hc hv
      have hn : n = 2100 := by omega
      subst hn
      have hlt := LIM_sum l1 l2
      have hnn := vs_nonneg (B := 65536) (by decide) hd
      have hc0 : c = 0 := by
        rcases hc with q | q
        · exact q
        · rw [q] at hv; omega
      rw [hc0] at hv
      have hv2 : vs 65536 f 2100 = vs 65536 (Z 16) 2100 + vs 65536 (Z 17) 2100 := by omega
      have ez : zrw Z 14 2100 f 1 = Z 1 := zrw_off (by decide)
      refine j_iload_n hJ dX1_sum_41 rfl ?_
      refine j_sipush hJ (by decide) dX1_sum_42 ?_
      refine j_icmp_ge (tgt := 88) hJ (by decide) ⟨by omega, by omega⟩ ⟨by omega, by omega⟩ dX1_sum_45 (fun h45 => ?_) (fun h45 => ?_)
      · refine j_aload_n hJ dX1_sum_88 rfl ?_
        refine m_sign hJ hin (by decide +kernel) dX1_sum_89 ?_
        refine j_bipush hJ (by decide) dX1_sum_92 ?_
        refine j_aload_n hJ dX1_sum_94 rfl ?_
        refine m_sign hJ hin (by decide +kernel) dX1_sum_95 ?_
        refine j_bipush hJ (by decide) dX1_sum_98 ?_
        refine m_ald_sg hJ ⟨by omega, by omega⟩ dX1_sum_100 ?_
        rw [ez, e14]
        refine j_if_ne (tgt := 114) hJ (by decide) ⟨by omega, by omega⟩ dX1_sum_101 (fun h101 => ?_) (fun h101 => ?_)
        · refine j_aload_n hJ dX1_sum_114 rfl ?_
          refine m_sign hJ hin (by decide +kernel) dX1_sum_115 ?_
          refine j_bipush hJ (by decide) dX1_sum_118 ?_
          refine m_ald_sg hJ ⟨by omega, by omega⟩ dX1_sum_120 ?_
          try rw [ez, e14]
          refine m_ast_sg hJ ⟨by omega, by omega⟩ dX1_sum_121 ?_
          exact j_vret hJ (Nat.le_of_ble_eq_true rfl) (⟨rfl, f, _, rfl, hd, by rw [hv2]; exact sum_sg s1 s2 hs (by omega)⟩) dX1_sum_122
        · refine j_aload_n hJ dX1_sum_104 rfl ?_
          refine m_sign hJ hin (by decide +kernel) dX1_sum_105 ?_
          refine j_bipush hJ (by decide) dX1_sum_108 ?_
          refine m_ald_sg hJ ⟨by omega, by omega⟩ dX1_sum_110 ?_
          rw [ez, e15]
          refine j_goto (tgt := 121) hJ (by decide) dX1_sum_111 ?_
          try rw [ez, e14]
          refine m_ast_sg hJ ⟨by omega, by omega⟩ dX1_sum_121 ?_
          exact j_vret hJ (Nat.le_of_ble_eq_true rfl) (⟨rfl, f, _, rfl, hd, by rw [hv2]; exact sum_sg s1 s2 hs (by omega)⟩) dX1_sum_122
      · omega
    | succ m ih =>
      intro n f c hm hd hc hv
      have q1 := d1 n (by omega)
      have q2 := d2 n (by omega)
      have e1 : zrw Z 14 n f 16 = Z 16 := zrw_off (by decide)
      have e2 : zrw Z 14 n f 17 = Z 17 := zrw_off (by decide)
      have e3 : ((n : Nat) : Int).toNat = n := by omega
      refine j_iload_n hJ dX1_sum_41 rfl ?_
      refine j_sipush hJ (by decide) dX1_sum_42 ?_
      refine j_icmp_ge (tgt := 88) hJ (by decide) ⟨by omega, by omega⟩ ⟨by omega, by omega⟩ dX1_sum_45 (fun h45 => ?_) (fun h45 => ?_)
      · omega
      · refine j_iload_n hJ dX1_sum_48 rfl ?_
        refine j_aload_n hJ dX1_sum_49 rfl ?_
        refine j_bipush hJ (by decide) dX1_sum_50 ?_
        refine j_iload_n hJ dX1_sum_52 rfl ?_
        refine j_callV hJ (kX1_get l D cI a _ _ _ ⟨by omega, by omega⟩ ⟨by omega, by omega⟩) rfl gX1_sum_X1_get rfl hdX1_get rfl ⟨Nat.le_of_ble_eq_true rfl, Nat.le_of_ble_eq_true rfl⟩ (Nat.le_of_ble_eq_true rfl) (Nat.le_of_ble_eq_true rfl) rfl rfl dX1_sum_53 (fun _ _ h => False.elim h) (fun r53 Z53 hp53 => ?_)
        obtain ⟨rfl, rfl⟩ := hp53
        rw [show (14 : Int).toNat + 2 = 16 from rfl, e1, e3]
        refine j_aload_n hJ dX1_sum_56 rfl ?_
        refine j_bipush hJ (by decide) dX1_sum_57 ?_
        refine j_iload_n hJ dX1_sum_59 rfl ?_
        refine j_callV hJ (kX1_get l D cI a _ _ _ ⟨by omega, by omega⟩ ⟨by omega, by omega⟩) rfl gX1_sum_X1_get rfl hdX1_get rfl ⟨Nat.le_of_ble_eq_true rfl, Nat.le_of_ble_eq_true rfl⟩ (Nat.le_of_ble_eq_true rfl) (Nat.le_of_ble_eq_true rfl) rfl rfl dX1_sum_60 (fun _ _ h => False.elim h) (fun r60 Z60 hp60 => ?_)
        obtain ⟨rfl, rfl⟩ := hp60
        rw [show (15 : Int).toNat + 2 = 17 from rfl, e2, e3]
        refine j_iadd hJ dX1_sum_63 ?_
        refine j_iadd hJ dX1_sum_64 ?_
        refine j_istore_n hJ (by decide) dX1_sum_65 ?_
        refine j_aload_n hJ dX1_sum_66 rfl ?_
        refine j_bipush hJ (by decide) dX1_sum_67 ?_
        refine j_iload_n hJ dX1_sum_69 rfl ?_
        refine j_iload_n hJ dX1_sum_70 rfl ?_
        refine j_ldc (v := 65535) (z := 65535) hJ (by decide) (by decide +kernel) dX1_sum_71 ?_
        refine j_iand hJ (iZ_low16 _) dX1_sum_73 ?_
        refine j_callV hJ (kX1_put l D cI a _ _ _ _ ⟨by omega, by omega⟩ ⟨by omega, by omega⟩) rfl gX1_sum_X1_put rfl hdX1_put rfl ⟨Nat.le_of_ble_eq_true rfl, Nat.le_of_ble_eq_true rfl⟩ (Nat.le_of_ble_eq_true rfl) (Nat.le_of_ble_eq_true rfl) rfl rfl dX1_sum_74 (fun _ _ h => False.elim h) (fun r74 Z74 hp74 => ?_)
        obtain ⟨rfl, rfl⟩ := hp74
        rw [show (12 : Int).toNat + 2 = 14 from rfl, e3, zrw_push]
        refine j_iload_n hJ dX1_sum_77 rfl ?_
        refine j_bipush hJ (by decide) dX1_sum_78 ?_
        refine j_ishr (n := 16) hJ (by decide) ⟨by omega, by omega⟩ dX1_sum_80 ?_
        refine j_istore_n hJ (by decide) dX1_sum_81 ?_
        refine j_iinc hJ (by decide) dX1_sum_82 rfl ?_
        refine j_goto (tgt := 41) hJ (by decide) dX1_sum_85 ?_
        refine j_re hJ (ih (n + 1) _ ((c + (Z 16 n + Z 17 n)) / 65536) (by omega) (dgs_push hd ⟨by omega, by omega⟩) (by omega) ?_) ⟨rfl, rfl, rfl, trivial⟩
        rw [vs_push, vs_s, vs_s, pw_s]
        have hw : (c + (Z 16 n + Z 17 n)) % 65536 = c + (Z 16 n + Z 17 n) - 65536 * ((c + (Z 16 n + Z 17 n)) / 65536) := by omega
        rw [hw]
        grind
  have d1' : dgs 65536 2100 (Z ((14 : Int).toNat + 2)) := d1
  have d2' : dgs 65536 2100 (Z ((15 : Int).toNat + 2)) := d2
  have hcz := cz_spec (vs 65536 (Z 16) 2100) (vs 65536 (Z 17) 2100)
  refine j_aload_n hJ dX1_sum_0 rfl ?_
  refine m_sign hJ hin (by decide +kernel) dX1_sum_1 ?_
  refine j_bipush hJ (by decide) dX1_sum_4 ?_
  refine m_ald_sg hJ ⟨by omega, by omega⟩ dX1_sum_6 ?_
  refine j_aload_n hJ dX1_sum_7 rfl ?_
  refine m_sign hJ hin (by decide +kernel) dX1_sum_8 ?_
  refine j_bipush hJ (by decide) dX1_sum_11 ?_
  refine m_ald_sg hJ ⟨by omega, by omega⟩ dX1_sum_13 ?_
  rw [e14, e15]
  refine j_icmp_eq (tgt := 37) hJ (by decide) ⟨by omega, by omega⟩ ⟨by omega, by omega⟩ dX1_sum_14 (fun h14 => ?_) (fun h14 => ?_)
  · refine j_iconst hJ dX1_sum_37 ?_
    refine j_istore_n hJ (by decide) dX1_sum_38 ?_
    refine j_iconst hJ dX1_sum_39 ?_
    refine j_istore_n hJ (by decide) dX1_sum_40 ?_
    have h9 := loop (by omega) 2100 0 (fun _ => 0) 0 (by omega) (dgs_0 _ _) (Or.inl rfl) (by show (0 : Int) + 0 * 65536 ^ 0 = 0 + 0; decide)
    rw [zrw_0] at h9
    exact j_re hJ h9 ⟨rfl, rfl, rfl, trivial⟩
  · refine j_aload_n hJ dX1_sum_17 rfl ?_
    refine m_sign hJ hin (by decide +kernel) dX1_sum_18 ?_
    refine j_bipush hJ (by decide) dX1_sum_21 ?_
    refine m_ald_sg hJ ⟨by omega, by omega⟩ dX1_sum_23 ?_
    rw [e14]
    refine j_if_eq (tgt := 37) hJ (by decide) ⟨by omega, by omega⟩ dX1_sum_24 (fun h24 => ?_) (fun h24 => ?_)
    · refine j_iconst hJ dX1_sum_37 ?_
      refine j_istore_n hJ (by decide) dX1_sum_38 ?_
      refine j_iconst hJ dX1_sum_39 ?_
      refine j_istore_n hJ (by decide) dX1_sum_40 ?_
      have h9 := loop (by omega) 2100 0 (fun _ => 0) 0 (by omega) (dgs_0 _ _) (Or.inl rfl) (by show (0 : Int) + 0 * 65536 ^ 0 = 0 + 0; decide)
      rw [zrw_0] at h9
      exact j_re hJ h9 ⟨rfl, rfl, rfl, trivial⟩
    · refine j_aload_n hJ dX1_sum_27 rfl ?_
      refine m_sign hJ hin (by decide +kernel) dX1_sum_28 ?_
      refine j_bipush hJ (by decide) dX1_sum_31 ?_
      refine m_ald_sg hJ ⟨by omega, by omega⟩ dX1_sum_33 ?_
      rw [e15]
      refine j_if_ne (tgt := 123) hJ (by decide) ⟨by omega, by omega⟩ dX1_sum_34 (fun h34 => ?_) (fun h34 => ?_)
      · refine j_aload_n hJ dX1_sum_123 rfl ?_
        refine j_bipush hJ (by decide) dX1_sum_124 ?_
        refine j_bipush hJ (by decide) dX1_sum_126 ?_
        refine j_callV hJ (kX1_order l D cI a _ _ _ ⟨by omega, by omega⟩ ⟨by omega, by omega⟩ d1' d2') rfl gX1_sum_X1_order rfl hdX1_order rfl ⟨Nat.le_of_ble_eq_true rfl, Nat.le_of_ble_eq_true rfl⟩ (Nat.le_of_ble_eq_true rfl) (Nat.le_of_ble_eq_true rfl) rfl rfl dX1_sum_128 (fun _ _ h => False.elim h) (fun r128 Z128 hp128 => ?_)
        obtain ⟨rfl, rfl⟩ := hp128
        rw [show (14 : Int).toNat + 2 = 16 from rfl, show (15 : Int).toNat + 2 = 17 from rfl]
        generalize cz (vs 65536 (Z 16) 2100) (vs 65536 (Z 17) 2100) = z at hcz ⊢
        refine j_if_ge (tgt := 138) hJ (by decide) ⟨by omega, by omega⟩ dX1_sum_131 (fun h131 => ?_) (fun h131 => ?_)
        · refine j_iconst hJ dX1_sum_138 ?_
          refine j_istore_n hJ (by decide) dX1_sum_139 ?_
          refine j_iload_n hJ dX1_sum_140 rfl ?_
          refine j_if_eq (tgt := 149) hJ (by decide) ⟨by omega, by omega⟩ dX1_sum_141 (fun h141 => ?_) (fun h141 => absurd h141 (by decide))
          refine j_bipush hJ (by decide) dX1_sum_149 ?_
          refine j_istore_n hJ (by decide) dX1_sum_151 ?_
          refine j_iload_n hJ dX1_sum_152 rfl ?_
          refine j_if_eq (tgt := 161) hJ (by decide) ⟨by omega, by omega⟩ dX1_sum_153 (fun h153 => ?_) (fun h153 => absurd h153 (by decide))
          refine j_bipush hJ (by decide) dX1_sum_161 ?_
          refine j_istore_n hJ (by decide) dX1_sum_163 ?_
          refine j_aload_n hJ dX1_sum_164 rfl ?_
          refine j_bipush hJ (by decide) dX1_sum_165 ?_
          refine j_iload_n hJ dX1_sum_167 rfl ?_
          refine j_iload_n hJ dX1_sum_168 rfl ?_
          refine j_callV hJ (by first | exact kX1_less l D cI a Z 12 14 15 ⟨by omega, by omega⟩ ⟨by omega, by omega⟩ ⟨by omega, by omega⟩ (by omega) (by omega) d1 d2 (by show vs 65536 (Z 17) 2100 ≤ vs 65536 (Z 16) 2100; omega) | exact kX1_less l D cI a Z 12 15 14 ⟨by omega, by omega⟩ ⟨by omega, by omega⟩ ⟨by omega, by omega⟩ (by omega) (by omega) d2 d1 (by show vs 65536 (Z 16) 2100 ≤ vs 65536 (Z 17) 2100; omega)) rfl gX1_sum_X1_less rfl hdX1_less rfl ⟨Nat.le_of_ble_eq_true rfl, Nat.le_of_ble_eq_true rfl⟩ (Nat.le_of_ble_eq_true rfl) (Nat.le_of_ble_eq_true rfl) rfl rfl dX1_sum_169 (fun _ _ h => False.elim h) (fun r169 Z169 hp169 => ?_)
          obtain ⟨rfl, f, rfl, hd, hv⟩ := hp169
          rw [show (12 : Int).toNat + 2 = 14 from rfl]
          refine j_aload_n hJ dX1_sum_172 rfl ?_
          refine m_sign hJ hin (by decide +kernel) dX1_sum_173 ?_
          refine j_bipush hJ (by decide) dX1_sum_176 ?_
          refine j_aload_n hJ dX1_sum_178 rfl ?_
          refine m_sign hJ hin (by decide +kernel) dX1_sum_179 ?_
          refine j_iload_n hJ dX1_sum_182 rfl ?_
          refine m_ald_sg hJ ⟨by omega, by omega⟩ dX1_sum_183 ?_
          rw [zrw_off (j' := 1) (by decide)]
          refine m_ast_sg hJ ⟨by omega, by omega⟩ dX1_sum_184 ?_
          exact j_vret hJ (Nat.le_of_ble_eq_true rfl) (⟨rfl, f, _, rfl, hd, by first | (show Z 1 14 = 0 ∨ Z 1 14 = 1 ∨ Z 1 14 = -1; omega) | (show Z 1 15 = 0 ∨ Z 1 15 = 1 ∨ Z 1 15 = -1; omega), by rw [hv]; first | exact (sub_sg s1 s2 (by omega) (by omega) (by omega)).1 | exact (sub_sg s1 s2 (by omega) (by omega) (by omega)).2, by first | (intro (q : Z 1 14 = 0); omega) | (intro (q : Z 1 15 = 0); omega)⟩) dX1_sum_185
        · refine j_iconst hJ dX1_sum_134 ?_
          refine j_goto (tgt := 139) hJ (by decide) dX1_sum_135 ?_
          refine j_istore_n hJ (by decide) dX1_sum_139 ?_
          refine j_iload_n hJ dX1_sum_140 rfl ?_
          refine j_if_eq (tgt := 149) hJ (by decide) ⟨by omega, by omega⟩ dX1_sum_141 (fun h141 => absurd h141 (by decide)) (fun h141 => ?_)
          refine j_bipush hJ (by decide) dX1_sum_144 ?_
          refine j_goto (tgt := 151) hJ (by decide) dX1_sum_146 ?_
          refine j_istore_n hJ (by decide) dX1_sum_151 ?_
          refine j_iload_n hJ dX1_sum_152 rfl ?_
          refine j_if_eq (tgt := 161) hJ (by decide) ⟨by omega, by omega⟩ dX1_sum_153 (fun h153 => absurd h153 (by decide)) (fun h153 => ?_)
          refine j_bipush hJ (by decide) dX1_sum_156 ?_
          refine j_goto (tgt := 163) hJ (by decide) dX1_sum_158 ?_
          refine j_istore_n hJ (by decide) dX1_sum_163 ?_
          refine j_aload_n hJ dX1_sum_164 rfl ?_
          refine j_bipush hJ (by decide) dX1_sum_165 ?_
          refine j_iload_n hJ dX1_sum_167 rfl ?_
          refine j_iload_n hJ dX1_sum_168 rfl ?_
          refine j_callV hJ (by first | exact kX1_less l D cI a Z 12 14 15 ⟨by omega, by omega⟩ ⟨by omega, by omega⟩ ⟨by omega, by omega⟩ (by omega) (by omega) d1 d2 (by show vs 65536 (Z 17) 2100 ≤ vs 65536 (Z 16) 2100; omega) | exact kX1_less l D cI a Z 12 15 14 ⟨by omega, by omega⟩ ⟨by omega, by omega⟩ ⟨by omega, by omega⟩ (by omega) (by omega) d2 d1 (by show vs 65536 (Z 16) 2100 ≤ vs 65536 (Z 17) 2100; omega)) rfl gX1_sum_X1_less rfl hdX1_less rfl ⟨Nat.le_of_ble_eq_true rfl, Nat.le_of_ble_eq_true rfl⟩ (Nat.le_of_ble_eq_true rfl) (Nat.le_of_ble_eq_true rfl) rfl rfl dX1_sum_169 (fun _ _ h => False.elim h) (fun r169 Z169 hp169 => ?_)
          obtain ⟨rfl, f, rfl, hd, hv⟩ := hp169
          rw [show (12 : Int).toNat + 2 = 14 from rfl]
          refine j_aload_n hJ dX1_sum_172 rfl ?_
          refine m_sign hJ hin (by decide +kernel) dX1_sum_173 ?_
          refine j_bipush hJ (by decide) dX1_sum_176 ?_
          refine j_aload_n hJ dX1_sum_178 rfl ?_
          refine m_sign hJ hin (by decide +kernel) dX1_sum_179 ?_
          refine j_iload_n hJ dX1_sum_182 rfl ?_
          refine m_ald_sg hJ ⟨by omega, by omega⟩ dX1_sum_183 ?_
          rw [zrw_off (j' := 1) (by decide)]
          refine m_ast_sg hJ ⟨by omega, by omega⟩ dX1_sum_184 ?_
          exact j_vret hJ (Nat.le_of_ble_eq_true rfl) (⟨rfl, f, _, rfl, hd, by first | (show Z 1 14 = 0 ∨ Z 1 14 = 1 ∨ Z 1 14 = -1; omega) | (show Z 1 15 = 0 ∨ Z 1 15 = 1 ∨ Z 1 15 = -1; omega), by rw [hv]; first | exact (sub_sg s1 s2 (by omega) (by omega) (by omega)).1 | exact (sub_sg s1 s2 (by omega) (by omega) (by omega)).2, by first | (intro (q : Z 1 14 = 0); omega) | (intro (q : Z 1 15 = 0); omega)⟩) dX1_sum_185
      · refine j_iconst hJ dX1_sum_37 ?_
        refine j_istore_n hJ (by decide) dX1_sum_38 ?_
        refine j_iconst hJ dX1_sum_39 ?_
        refine j_istore_n hJ (by decide) dX1_sum_40 ?_
        have h9 := loop (by omega) 2100 0 (fun _ => 0) 0 (by omega) (dgs_0 _ _) (Or.inl rfl) (by show (0 : Int) + 0 * 65536 ^ 0 = 0 + 0; decide)
        rw [zrw_0] at h9
        exact j_re hJ h9 ⟨rfl, rfl, rfl, trivial⟩
end M5
