def st4 (T : ZZ) (n : Nat) (G R O : Nat → Int) : ZZ := zrw (zrw (zrw T 17 n G) 15 n R) 14 n O
theorem st4_O (T : ZZ) (n : Nat) (G R O f : Nat → Int) : zrw (st4 T n G R O) 14 n f = st4 T n G R f := zrw_zrw (Nat.le_refl n)
theorem st4_R (T : ZZ) (n : Nat) (G R O f : Nat → Int) : zrw (st4 T n G R O) 15 n f = st4 T n G f O := by
  unfold st4; rw [zrw_comm (j := 14) (by decide), zrw_zrw (Nat.le_refl n)]
theorem st4_G (T : ZZ) (n : Nat) (G R O f : Nat → Int) : zrw (st4 T n G R O) 17 n f = st4 T n f R O := by
  unfold st4; rw [zrw_comm (j := 14) (by decide), zrw_comm (j := 15) (by decide), zrw_zrw (Nat.le_refl n)]
theorem st4_14 {T : ZZ} {n i : Nat} {G R O : Nat → Int} (h : i < n) : st4 T n G R O 14 i = O i := zrw_in h
theorem st4_15 {T : ZZ} {n i : Nat} {G R O : Nat → Int} (h : i < n) : st4 T n G R O 15 i = R i := by unfold st4; rw [zrw_off (by decide), zrw_in h]
theorem st4_17 {T : ZZ} {n i : Nat} {G R O : Nat → Int} (h : i < n) : st4 T n G R O 17 i = G i := by unfold st4; rw [zrw_off (by decide), zrw_off (by decide), zrw_in h]
theorem st4_14g {T : ZZ} {n i : Nat} {G R O : Nat → Int} (h : n ≤ i) : st4 T n G R O 14 i = T 14 i := by unfold st4; rw [zrw_ge h, zrw_off (by decide), zrw_off (by decide)]
theorem st4_off {T : ZZ} {n j : Nat} {G R O : Nat → Int} (h1 : j ≠ 14) (h2 : j ≠ 15) (h3 : j ≠ 17) : st4 T n G R O j = T j := by unfold st4; rw [zrw_off h1, zrw_off h2, zrw_off h3]
theorem st4_d {T : ZZ} {n : Nat} {G R O : Nat → Int} (hT : ∀ j, j < 16 → dgs 65536 2100 (T (j + 2))) (hG : dgs 65536 n G) (hR : dgs 65536 n R) (hO : dgs 65536 n O) : ∀ j, j < 16 → dgs 65536 2100 (st4 T n G R O (j + 2)) := by
  intro j hj
  have h1 : ∀ j, j < 16 → dgs 65536 2100 (zrw T 17 n G (j + 2)) := fun j hj => by
    by_cases e : j = 15
    · subst e; exact dgs_zrw (hT 15 hj) hG
    · rw [zrw_off (by omega)]; exact hT j hj
  have h2 : ∀ j, j < 16 → dgs 65536 2100 (zrw (zrw T 17 n G) 15 n R (j + 2)) := fun j hj => by
    by_cases e : j = 13
    · subst e; exact dgs_zrw (h1 13 hj) hR
    · rw [zrw_off (by omega)]; exact h1 j hj
  unfold st4
  by_cases e : j = 12
  · subst e; exact dgs_zrw (h2 12 hj) hO
  · rw [zrw_off (by omega)]; exact h2 j hj
/-- one step of a root by pairs of bits -/
theorem root_step {X r t : Int} (hr : 0 ≤ r) (h1 : r * r ≤ X) (h2 : X < (r + 1) * (r + 1)) (ht : 0 ≤ t ∧ t < 4) : (4 * r + 1 ≤ 4 * (X - r * r) + t → (2 * r + 1) * (2 * r + 1) ≤ 4 * X + t ∧ 4 * X + t < (2 * r + 1 + 1) * (2 * r + 1 + 1) ∧ 4 * (X - r * r) + t - (4 * r + 1) = 4 * X + t - (2 * r + 1) * (2 * r + 1)) ∧
    (4 * (X - r * r) + t < 4 * r + 1 → (2 * r) * (2 * r) ≤ 4 * X + t ∧ 4 * X + t < (2 * r + 1) * (2 * r + 1) ∧ 4 * (X - r * r) + t = 4 * X + t - (2 * r) * (2 * r)) := by
  constructor <;> intro h <;> refine ⟨by grind, by grind, by grind⟩
theorem quarter {A : Int} {k : Nat} : A / 4 ^ k = 4 * (A / 4 ^ (k + 1)) + (2 * (A / 2 ^ (2 * k + 1) % 2) + A / 2 ^ (2 * k) % 2) := by
  have e1 : (4 : Int) ^ k = 2 ^ (2 * k) := by rw [← pw_mul]; rfl
  have e2 : A / 4 ^ (k + 1) = A / 4 ^ k / 4 := by rw [pw_s, ← Int.ediv_ediv_of_nonneg (Int.le_of_lt (pw_pos (by decide) k))]
  have e3 : A / 2 ^ (2 * k + 1) = A / 4 ^ k / 2 := by rw [pw_s, ← e1, ← Int.ediv_ediv_of_nonneg (Int.le_of_lt (pw_pos (by decide) k))]
  rw [e2, e3, ← e1]
  omega
theorem root_fits {A r : Int} {n : Nat} (hr : 0 ≤ r) (h1 : r * r ≤ A) (h2 : A < 65536 ^ n) : r < 65536 ^ (n / 2 + 1) := by
  rcases Int.lt_or_le r (65536 ^ (n / 2 + 1)) with q | q
  · exact q
  · have hp := pw_pos (B := 65536) (by decide) (n / 2 + 1)
    have h3 := Int.mul_le_mul q q (Int.le_of_lt hp) hr
    rw [← Int.pow_add] at h3
    have h4 : (65536 : Int) ^ n ≤ 65536 ^ (n / 2 + 1 + (n / 2 + 1)) := pw_mono (by decide) (by omega)
    omega
section M12
variable (l : Launch) (D : va_G) (cI : ClassId) (a : Nat → Nat) (Z : ZZ)
set_option maxRecDepth 20000 in
theorem kX1_root (g : Nat → Int) (hI : MI Z g) (r i : Int) (h0 : i32 r) (h1 : i32 i) : Ct l D (tM cI) (wM cI a) yX1_root wsX1_root 3 0 68 [.ref (a 0), .int (iZ r), .int (iZ i)] Z (fun v Z' => v = none ∧ Z' 0 0 = (oRoot g r i).1 ∧ MI Z' (oRoot g r i).2) nX := by
  refine Ct.of (cc := cX1_root) (maxL := 6) (ret := none) rfl (by decide) rfl (Nat.le_of_ble_eq_true rfl) (fun J hJ => ?_)
  have hin : ∀ w ∈ u_ws RX1 TX1 3, w ∈ wsX1_root := by decide +kernel
  unfold oRoot at hJ
  have p0 := isR_spec r
  have p1 := isR_spec i
  have main : isRg r → isRg i → 0 ≤ g i.toNat → IsJ l D (tM cI) (wM cI a) cX1_root 6 wsX1_root RX1 3 0 68 none (fun v Z' => v = none ∧ Z' 0 0 = 0 ∧ MI Z' (gset g r.toNat (rt (g i.toNat)))) nX J → J (zup Z 0 0 0) 0 46 [(0, .ref (a 0)), (1, .int (iZ r)), (2, .int (iZ i))] [] := by
    intro hr hi hb hJ
    clear p0 p1
    have hc := hI.code 0
    have hc0 : zup Z 0 0 0 0 0 = 0 := zup_eq _ _ _ _
    generalize zup Z 0 0 0 = Y at hc hc0
    have m1 := hc.mov (j := 14) (i := i.toNat) (by omega) (by omega)
    have zd : dgs 65536 2100 (fun _ => 0) := fun _ _ => ⟨by show (0 : Int) ≤ 0; decide, by show (0 : Int) < 65536; decide⟩
    have m3 := (m1.row (j := 12) (n := 2100) (by omega) zd).sgn (j := 12) (by omega) 0
    have m4 : MI (mclr (mclr (mmov Y 14 i.toNat) 12) 13) g := (m3.row (j := 13) (n := 2100) (by omega) zd).sgn (j := 13) (by omega) 0
    have t00 : mclr (mclr (mmov Y 14 i.toNat) 12) 13 0 0 = 0 := by rw [mclr_off (by omega) (by omega), mclr_off (by omega) (by omega), mmov_off (by omega) (by omega)]; exact hc0
    have t16 : ∀ k, k < 2100 → mclr (mclr (mmov Y 14 i.toNat) 12) 13 16 k = Y (i.toNat + 2) k := fun k hk => by rw [mclr_off (by omega) (by omega), mclr_off (by omega) (by omega), mmov_row hk]
    have t14 : ∀ k, k < 2100 → mclr (mclr (mmov Y 14 i.toNat) 12) 13 14 k = 0 := fun k hk => by rw [mclr_off (by omega) (by omega), mclr_row hk]
    have t15 : ∀ k, k < 2100 → mclr (mclr (mmov Y 14 i.toNat) 12) 13 15 k = 0 := fun k hk => mclr_row hk
    have v16 : vs 65536 (mclr (mclr (mmov Y 14 i.toNat) 12) 13 16) 2100 = g i.toNat := by rw [vs_congr t16, (hc.2 i.toNat (by omega)).1]; omega
    have hLA := (hc.2 i.toNat (by omega)).2.2
    rw [show ((g i.toNat).natAbs : Int) = g i.toNat by omega] at hLA
    generalize hT : mclr (mclr (mmov Y 14 i.toNat) 12) 13 = T at m4 t00 t14 t15 v16
    have hT2 : mclr (mclr (mmov Y 14 i.toNat) 12) 13 = T := hT
    clear t16 m1 m3
    generalize hA : g i.toNat = A at v16 hb hLA hJ
    have d16 : dgs 65536 2100 (T 16) := m4.1 14 (by omega)
    have ln1 : lenr (T 16) 2100 ≤ 1024 := (lenr_iff (B := 65536) (by decide) d16).mpr (by rw [v16]; exact hLA)
    have bl16 := lenr_lt (B := 65536) (by decide) d16
    rw [v16] at bl16
    generalize hN : lenr (T 16) 2100 = L at ln1 bl16
    have hn2 : ((L : Int) / 2 + 3).toNat = L / 2 + 3 := by omega
    generalize hnn : L / 2 + 3 = n at hn2
    have hn3 : n ≤ 515 := by omega
    have hpn : (65536 : Int) ^ n = 65536 ^ (L / 2 + 1) * 4294967296 := by rw [← hnn, show L / 2 + 3 = L / 2 + 1 + 2 by omega, Int.pow_add]; rfl
    have hpp := pw_pos (B := 65536) (by decide) (L / 2 + 1)
    have e13 : (13 : Int).toNat + 2 = 15 := rfl
    have e15 : (15 : Int).toNat + 2 = 17 := rfl
    have e12 : (12 : Int).toNat + 2 = 14 := rfl
    have fin : ∀ (G R O : Nat → Int), dgs 65536 n G → dgs 65536 n R → dgs 65536 n O → vs 65536 O n * vs 65536 O n ≤ A → A < (vs 65536 O n + 1) * (vs 65536 O n + 1) → J (st4 T n G R O) 0 225 [(0, .ref (a 0)), (1, .int (iZ r))] [] := by
      intro G R O dG dR dO hO1 hO2
      have hO0 := vs_nonneg (B := 65536) (by decide) dO
      have dS := st4_d m4.1 dG dR dO
      have mS : MI (st4 T n G R O) g := ⟨dS, fun y hy => by rw [st4_off (by omega) (by omega) (by omega), st4_off (by omega) (by omega) (by omega)]; exact m4.2 y hy⟩
      have vO : vs 65536 (st4 T n G R O 14) 2100 = vs 65536 O n := by
        rw [vs_top (m := n) (by omega) (fun y a1 a2 => by rw [st4_14g a1]; exact t14 y a2), vs_congr (g := O) (fun y hy => st4_14 hy)]
      have d14 : dgs 65536 2100 (st4 T n G R O ((12 : Int).toNat + 2)) := dS 12 (by omega)
      have k14 : lenr (st4 T n G R O 14) 2100 = 0 ↔ vs 65536 O n = 0 := by rw [← vO]; exact lenr_0iff (B := 65536) (by decide) d14
      have l14 := lenr_le (st4 T n G R O 14) 2100
      have s00 : st4 T n G R O 0 = T 0 := st4_off (by omega) (by omega) (by omega)
      have hrt : rt A = vs 65536 O n := rt_eq ⟨hO0, hO1, hO2⟩
      have hfits := root_fits hO0 hO1 bl16
      have hOA : vs 65536 O n < LIM := by
        rcases Int.lt_or_le (vs 65536 O n) 1 with q | q
        · have := LIM_pos; omega
        · have := Int.mul_le_mul_of_nonneg_left q hO0; omega
      generalize hv : vs 65536 O n = v at vO k14 hrt hOA hO0
      generalize st4 T n G R O = S at mS vO d14 k14 l14 s00
      have go2 : ∀ s1 : Int, s1 = v.sign → J (zup S 1 12 s1) 0 246 [(0, .ref (a 0)), (1, .int (iZ r))] [] := by
        intro s1 hs1
        have mF := mS.sgn (j := 12) (by omega) s1
        have y14 : zup S 1 12 s1 14 = S 14 := zup_off _ 1 _ _ (by omega)
        have hf : MI (mmov (zup S 1 12 s1) r.toNat 12) (gset g r.toNat (rt A)) := MI.reg mF (by omega) (mF.1 12 (by omega)) (by rw [y14, vO, hrt]; omega) (by rw [zup_eq, hs1, hrt]) (by rw [hrt]; omega)
        refine j_aload_n hJ dX1_root_246 rfl ?_
        refine j_iload_n hJ dX1_root_247 rfl ?_
        refine j_bipush hJ (by decide) dX1_root_248 ?_
        refine j_callV hJ (kX1_move l D cI a _ _ _ ⟨by omega, by omega⟩ ⟨by omega, by omega⟩) rfl gX1_root_X1_move rfl hdX1_move rfl ⟨Nat.le_of_ble_eq_true rfl, Nat.le_of_ble_eq_true rfl⟩ (Nat.le_of_ble_eq_true rfl) (Nat.le_of_ble_eq_true rfl) rfl rfl dX1_root_250 (fun _ _ h => False.elim h) (fun r250 Z250 hp250 => ?_)
        obtain ⟨rfl, rfl⟩ := hp250
        exact j_vret hJ (Nat.le_of_ble_eq_true rfl) (⟨rfl, by rw [show (12 : Int).toNat = 12 from rfl, mmov_off (by omega) (by omega), zup_ne (by omega), s00]; exact t00, hf⟩) dX1_root_253
      have sc := sg_cases v
      refine j_aload_n hJ dX1_root_225 rfl ?_
      refine m_sign hJ hin (by decide +kernel) dX1_root_226 ?_
      refine j_bipush hJ (by decide) dX1_root_229 ?_
      refine j_aload_n hJ dX1_root_231 rfl ?_
      refine j_bipush hJ (by decide) dX1_root_232 ?_
      refine j_callV hJ (kX1_length l D cI a S 12 ⟨by omega, by omega⟩ d14) rfl gX1_root_X1_length rfl hdX1_length rfl ⟨Nat.le_of_ble_eq_true rfl, Nat.le_of_ble_eq_true rfl⟩ (Nat.le_of_ble_eq_true rfl) (Nat.le_of_ble_eq_true rfl) rfl rfl dX1_root_234 (fun _ _ h => False.elim h) (fun r234 Z234 hp234 => ?_)
      obtain ⟨rfl, rfl⟩ := hp234
      rw [e12]
      refine j_if_ne (tgt := 244) hJ (by decide) ⟨by omega, by omega⟩ dX1_root_237 (fun h237 => ?_) (fun h237 => ?_)
      · refine j_iconst hJ dX1_root_244 ?_
        refine m_ast_sg hJ ⟨by omega, by omega⟩ dX1_root_245 ?_
        exact go2 _ (by omega)
      · refine j_iconst hJ dX1_root_240 ?_
        refine j_goto (tgt := 245) hJ (by decide) dX1_root_241 ?_
        refine m_ast_sg hJ ⟨by omega, by omega⟩ dX1_root_245 ?_
        exact go2 _ (by omega)
    have loop : ∀ (k : Nat) (G R O : Nat → Int), k ≤ 16800 → dgs 65536 n G → dgs 65536 n R → dgs 65536 n O → vs 65536 O n * vs 65536 O n ≤ A / 4 ^ k → A / 4 ^ k < (vs 65536 O n + 1) * (vs 65536 O n + 1) → vs 65536 R n = A / 4 ^ k - vs 65536 O n * vs 65536 O n → J (st4 T n G R O) 0 90 [(0, .ref (a 0)), (1, .int (iZ r)), (3, .int (iZ ((L : Int) / 2 + 3))), (4, .int (iZ ((k : Int) - 1)))] [] := by
      intro k
      induction k with
      | zero =>
        intro G R O hk dG dR dO o1 o2 eR
        rw [Int.pow_zero, Int.ediv_one] at o1 o2
        refine j_iload hJ dX1_root_90 rfl ?_
        refine j_if_lt (tgt := 225) hJ (by decide) ⟨by omega, by omega⟩ dX1_root_92 (fun h92 => ?_) (fun h92 => ?_)
        · exact j_re hJ (fin G R O dG dR dO o1 o2) ⟨rfl, rfl, trivial⟩
        · omega
      | succ k ih =>
        intro G R O hk dG dR dO o1 o2 eR
        rw [show (((k + 1 : Nat) : Int) - 1) = (k : Int) by omega]
        have qt := quarter (A := A) (k := k)
        have r3 : 0 ≤ 2 * (A / 2 ^ (2 * k + 1) % 2) + A / 2 ^ (2 * k) % 2 ∧ 2 * (A / 2 ^ (2 * k + 1) % 2) + A / 2 ^ (2 * k) % 2 < 4 := by omega
        have hO0 := vs_nonneg (B := 65536) (by decide) dO
        have hAk : A / 4 ^ (k + 1) ≤ A := Int.ediv_le_self _ hb
        have hfits := root_fits hO0 (Int.le_trans o1 hAk) bl16
        have hRb : vs 65536 R n ≤ 2 * vs 65536 O n := by rw [eR]; grind
        have st := root_step hO0 o1 o2 r3
        rw [← eR] at st
        have dS := st4_d m4.1 dG dR dO
        have s16 : st4 T n G R O 16 = T 16 := st4_off (by omega) (by omega) (by omega)
        have dd16 : dgs 65536 2100 (st4 T n G R O ((14 : Int).toNat + 2)) := dS 14 (by omega)
        have dd15 : dgs 65536 2100 (st4 T n G R O ((13 : Int).toNat + 2)) := dS 13 (by omega)
        have w15 : vs 65536 (st4 T n G R O 15) n = vs 65536 R n := vs_congr (fun y hy => st4_15 hy)
        have hfit : vs 65536 (st4 T n G R O ((13 : Int).toNat + 2)) ((L : Int) / 2 + 3).toNat * ((2 ^ 2 : Nat) : Int) + (2 * (A / 2 ^ (2 * k + 1) % 2) + A / 2 ^ (2 * k) % 2) < 65536 ^ ((L : Int) / 2 + 3).toNat := by
          rw [hn2, e13, w15, hpn]
          show _ * 4 + _ < _
          omega
        have fin1 : ∀ (G3 f : Nat → Int) (tb : Int) (O2 : Nat → Int), dgs 65536 n G3 → dgs 65536 n f → dgs 65536 n O2 → vs 65536 O2 n * vs 65536 O2 n ≤ A / 4 ^ k → A / 4 ^ k < (vs 65536 O2 n + 1) * (vs 65536 O2 n + 1) → vs 65536 f n = A / 4 ^ k - vs 65536 O2 n * vs 65536 O2 n → J (st4 T n G3 f O2) 0 219 [(0, .ref (a 0)), (1, .int (iZ r)), (3, .int (iZ ((L : Int) / 2 + 3))), (4, .int (iZ (k : Int)))] [] := by
          intro G3 f tb O2 dG3 df dO2 c1 c2 c3
          refine j_iinc hJ (by decide) dX1_root_219 rfl ?_
          refine j_goto (tgt := 90) hJ (by decide) dX1_root_222 ?_
          exact j_re hJ (ih G3 f O2 (by omega) dG3 df dO2 c1 c2 c3) ⟨rfl, rfl, rfl, rfl, trivial⟩
        have aft : ∀ (f : Nat → Int) (tb : Int), dgs 65536 n f → vs 65536 f n = 4 * vs 65536 R n + tb → A / 4 ^ k = 4 * (A / 4 ^ (k + 1)) + tb → (0 ≤ tb ∧ tb < 4) → J (st4 T n G f O) 0 128 [(0, .ref (a 0)), (1, .int (iZ r)), (3, .int (iZ ((L : Int) / 2 + 3))), (4, .int (iZ (k : Int)))] [] := by
          intro f tb hf hv2 qt2 r4
          have st := root_step hO0 o1 o2 r4
          rw [← eR, ← hv2, ← qt2] at st
          have ex : ∀ (G2 : Nat → Int), dgs 65536 n G2 → vs 65536 G2 n = vs 65536 O n → J (st4 T n G2 f O) 0 159 [(0, .ref (a 0)), (1, .int (iZ r)), (3, .int (iZ ((L : Int) / 2 + 3))), (4, .int (iZ (k : Int)))] [] := by
            intro G2 dG2 vG2
            have dS2 := st4_d m4.1 dG2 hf dO
            have dd17 : dgs 65536 2100 (st4 T n G2 f O ((15 : Int).toNat + 2)) := dS2 15 (by omega)
            have w17 : vs 65536 (st4 T n G2 f O 17) n = vs 65536 O n := by rw [vs_congr (g := G2) (fun y hy => st4_17 hy)]; exact vG2
            have hfit2 : vs 65536 (st4 T n G2 f O ((15 : Int).toNat + 2)) ((L : Int) / 2 + 3).toNat * ((2 ^ 2 : Nat) : Int) + 1 < 65536 ^ ((L : Int) / 2 + 3).toNat := by
              rw [hn2, e15, w17, hpn]
              show _ * 4 + _ < _
              omega
            refine j_aload_n hJ dX1_root_159 rfl ?_
            refine j_bipush hJ (by decide) dX1_root_160 ?_
            refine j_iconst hJ dX1_root_162 ?_
            refine j_iconst hJ dX1_root_163 ?_
            refine j_iload_n hJ dX1_root_164 rfl ?_
            refine j_callV hJ (kX1_shift l D cI a _ 15 2 1 ((L : Int) / 2 + 3) ⟨by omega, by omega⟩ (Or.inr rfl) ⟨by decide, by decide⟩ ⟨by omega, by omega⟩ dd17 hfit2) rfl gX1_root_X1_shift rfl hdX1_shift rfl ⟨Nat.le_of_ble_eq_true rfl, Nat.le_of_ble_eq_true rfl⟩ (Nat.le_of_ble_eq_true rfl) (Nat.le_of_ble_eq_true rfl) rfl rfl dX1_root_165 (fun _ _ h => False.elim h) (fun r165 Z165 hp165 => ?_)
            obtain ⟨rfl, G3, rfl, hG3, hv3⟩ := hp165
            rw [hn2, e15, w17] at hv3
            rw [hn2] at hG3
            rw [hn2, e15, st4_G]
            have hv4 : vs 65536 G3 n = 4 * vs 65536 O n + 1 := by rw [hv3]; show _ * 4 + 1 = _; omega
            have dS3 := st4_d m4.1 hG3 hf dO
            have z15 : dgs 65536 2100 (st4 T n G3 f O ((13 : Int).toNat + 2)) := dS3 13 (by omega)
            have z17 : dgs 65536 2100 (st4 T n G3 f O ((15 : Int).toNat + 2)) := dS3 15 (by omega)
            have y15 : vs 65536 (st4 T n G3 f O 15) n = vs 65536 f n := vs_congr (fun y hy => st4_15 hy)
            have y17 : vs 65536 (st4 T n G3 f O 17) n = vs 65536 G3 n := vs_congr (fun y hy => st4_17 hy)
            rw [← hv4] at st
            refine j_aload_n hJ dX1_root_168 rfl ?_
            refine j_bipush hJ (by decide) dX1_root_169 ?_
            refine j_bipush hJ (by decide) dX1_root_171 ?_
            refine j_iload_n hJ dX1_root_173 rfl ?_
            refine j_callV hJ (kX1_isBelow l D cI a _ 13 15 ((L : Int) / 2 + 3) ⟨by omega, by omega⟩ ⟨by omega, by omega⟩ ⟨by omega, by omega⟩ z15 z17) rfl gX1_root_X1_isBelow rfl hdX1_isBelow rfl ⟨Nat.le_of_ble_eq_true rfl, Nat.le_of_ble_eq_true rfl⟩ (Nat.le_of_ble_eq_true rfl) (Nat.le_of_ble_eq_true rfl) rfl rfl dX1_root_174 (fun _ _ h => False.elim h) (fun r174 Z174 hp174 => ?_)
            obtain ⟨rfl, rfl⟩ := hp174
            rw [hn2, e13, e15, y15, y17]
            have hx := ite01 (vs 65536 f n < vs 65536 G3 n)
            generalize (if vs 65536 f n < vs 65536 G3 n then (1 : Int) else 0) = x at hx ⊢
            refine j_if_ne (tgt := 184) hJ (by decide) ⟨by omega, by omega⟩ dX1_root_177 (fun h177 => ?_) (fun h177 => ?_)
            · refine j_iconst hJ dX1_root_184 ?_
              refine j_istore hJ (by decide) dX1_root_185 ?_
              refine j_iload hJ dX1_root_187 rfl ?_
              refine j_if_eq (tgt := 201) hJ (by decide) ⟨by omega, by omega⟩ dX1_root_189 (fun h189 => ?_) (fun h189 => absurd h189 (by decide))
              refine j_aload_n hJ dX1_root_201 rfl ?_
              refine j_bipush hJ (by decide) dX1_root_202 ?_
              refine j_iconst hJ dX1_root_204 ?_
              refine j_iload hJ dX1_root_205 rfl ?_
              refine j_if_eq (tgt := 214) hJ (by decide) ⟨by omega, by omega⟩ dX1_root_207 (fun h207 => ?_) (fun h207 => absurd h207 (by decide))
              refine j_iconst hJ dX1_root_214 ?_
              refine j_iload_n hJ dX1_root_215 rfl ?_
              refine j_callV hJ (by first | exact kX1_shift l D cI a (st4 T n G3 f4 O) 12 1 1 ((L : Int) / 2 + 3) ⟨by omega, by omega⟩ (Or.inl rfl) ⟨by decide, by decide⟩ ⟨by omega, by omega⟩ z14 (by rw [hn2, e12, y14, hpn]; show _ * 2 + _ < _; omega) | exact kX1_shift l D cI a (st4 T n G3 f O) 12 1 0 ((L : Int) / 2 + 3) ⟨by omega, by omega⟩ (Or.inl rfl) ⟨by decide, by decide⟩ ⟨by omega, by omega⟩ (dS3 12 (by omega)) (by rw [hn2, e12, vs_congr (g := O) (fun y hy => st4_14 hy), hpn]; show _ * 2 + _ < _; omega)) rfl gX1_root_X1_shift rfl hdX1_shift rfl ⟨Nat.le_of_ble_eq_true rfl, Nat.le_of_ble_eq_true rfl⟩ (Nat.le_of_ble_eq_true rfl) (Nat.le_of_ble_eq_true rfl) rfl rfl dX1_root_216 (fun _ _ h => False.elim h) (fun r216 Z216 hp216 => ?_)
              obtain ⟨rfl, O2, rfl, hO2, hv6⟩ := hp216
              rw [hn2, e12, vs_congr (g := O) (fun y hy => st4_14 hy)] at hv6
              rw [hn2] at hO2
              rw [hn2, e12, st4_O]
              first | (have hv7 : vs 65536 O2 n = 2 * vs 65536 O n + 1 := (by rw [hv6]; show _ * 2 + 1 = _; omega); exact j_re hJ (fin1 G3 f4 tb O2 hG3 hf4 hO2 (by rw [hv7]; exact st2.1) (by rw [hv7]; exact st2.2.1) (by rw [hv5, hv7]; exact st2.2.2)) ⟨rfl, rfl, rfl, rfl, trivial⟩) | (have st3 := st.2 (by omega); have hv7 : vs 65536 O2 n = 2 * vs 65536 O n := (by rw [hv6]; show _ * 2 + 0 = _; omega); exact j_re hJ (fin1 G3 f tb O2 hG3 hf hO2 (by rw [hv7]; exact st3.1) (by rw [hv7]; exact st3.2.1) (by rw [hv7]; exact st3.2.2)) ⟨rfl, rfl, rfl, rfl, trivial⟩)
            · refine j_iconst hJ dX1_root_180 ?_
              refine j_goto (tgt := 185) hJ (by decide) dX1_root_181 ?_
              refine j_istore hJ (by decide) dX1_root_185 ?_
              refine j_iload hJ dX1_root_187 rfl ?_
              refine j_if_eq (tgt := 201) hJ (by decide) ⟨by omega, by omega⟩ dX1_root_189 (fun h189 => absurd h189 (by decide)) (fun h189 => ?_)
              refine j_aload_n hJ dX1_root_192 rfl ?_
              refine j_bipush hJ (by decide) dX1_root_193 ?_
              refine j_bipush hJ (by decide) dX1_root_195 ?_
              refine j_iload_n hJ dX1_root_197 rfl ?_
              refine j_callV hJ (kX1_lessBy l D cI a _ 13 15 ((L : Int) / 2 + 3) ⟨by omega, by omega⟩ ⟨by omega, by omega⟩ ⟨by omega, by omega⟩ (by omega) z15 z17 (by rw [hn2, e13, e15, y15, y17]; omega)) rfl gX1_root_X1_lessBy rfl hdX1_lessBy rfl ⟨Nat.le_of_ble_eq_true rfl, Nat.le_of_ble_eq_true rfl⟩ (Nat.le_of_ble_eq_true rfl) (Nat.le_of_ble_eq_true rfl) rfl rfl dX1_root_198 (fun _ _ h => False.elim h) (fun r198 Z198 hp198 => ?_)
              obtain ⟨rfl, f4, rfl, hf4, hv5⟩ := hp198
              rw [hn2, e13, e15, y15, y17] at hv5
              rw [hn2] at hf4
              rw [hn2, e13, st4_R]
              have st2 := st.1 (by omega)
              have dS4 := st4_d m4.1 hG3 hf4 dO
              have z14 : dgs 65536 2100 (st4 T n G3 f4 O ((12 : Int).toNat + 2)) := dS4 12 (by omega)
              have y14 : vs 65536 (st4 T n G3 f4 O 14) n = vs 65536 O n := vs_congr (fun y hy => st4_14 hy)
              refine j_aload_n hJ dX1_root_201 rfl ?_
              refine j_bipush hJ (by decide) dX1_root_202 ?_
              refine j_iconst hJ dX1_root_204 ?_
              refine j_iload hJ dX1_root_205 rfl ?_
              refine j_if_eq (tgt := 214) hJ (by decide) ⟨by omega, by omega⟩ dX1_root_207 (fun h207 => absurd h207 (by decide)) (fun h207 => ?_)
              refine j_iconst hJ dX1_root_210 ?_
              refine j_goto (tgt := 215) hJ (by decide) dX1_root_211 ?_
              refine j_iload_n hJ dX1_root_215 rfl ?_
              refine j_callV hJ (by first | exact kX1_shift l D cI a (st4 T n G3 f4 O) 12 1 1 ((L : Int) / 2 + 3) ⟨by omega, by omega⟩ (Or.inl rfl) ⟨by decide, by decide⟩ ⟨by omega, by omega⟩ z14 (by rw [hn2, e12, y14, hpn]; show _ * 2 + _ < _; omega) | exact kX1_shift l D cI a (st4 T n G3 f O) 12 1 0 ((L : Int) / 2 + 3) ⟨by omega, by omega⟩ (Or.inl rfl) ⟨by decide, by decide⟩ ⟨by omega, by omega⟩ (dS3 12 (by omega)) (by rw [hn2, e12, vs_congr (g := O) (fun y hy => st4_14 hy), hpn]; show _ * 2 + _ < _; omega)) rfl gX1_root_X1_shift rfl hdX1_shift rfl ⟨Nat.le_of_ble_eq_true rfl, Nat.le_of_ble_eq_true rfl⟩ (Nat.le_of_ble_eq_true rfl) (Nat.le_of_ble_eq_true rfl) rfl rfl dX1_root_216 (fun _ _ h => False.elim h) (fun r216 Z216 hp216 => ?_)
              obtain ⟨rfl, O2, rfl, hO2, hv6⟩ := hp216
              rw [hn2, e12, vs_congr (g := O) (fun y hy => st4_14 hy)] at hv6
              rw [hn2] at hO2
              rw [hn2, e12, st4_O]
              first | (have hv7 : vs 65536 O2 n = 2 * vs 65536 O n + 1 := (by rw [hv6]; show _ * 2 + 1 = _; omega); exact j_re hJ (fin1 G3 f4 tb O2 hG3 hf4 hO2 (by rw [hv7]; exact st2.1) (by rw [hv7]; exact st2.2.1) (by rw [hv5, hv7]; exact st2.2.2)) ⟨rfl, rfl, rfl, rfl, trivial⟩) | (have st3 := st.2 (by omega); have hv7 : vs 65536 O2 n = 2 * vs 65536 O n := (by rw [hv6]; show _ * 2 + 0 = _; omega); exact j_re hJ (fin1 G3 f tb O2 hG3 hf hO2 (by rw [hv7]; exact st3.1) (by rw [hv7]; exact st3.2.1) (by rw [hv7]; exact st3.2.2)) ⟨rfl, rfl, rfl, rfl, trivial⟩)
          have r14 : st4 T n G f O 14 = st4 T n G f O 14 := rfl
          generalize hS1 : st4 T n G f O = S1 at r14
          have inner : ∀ (u x : Nat), x + u = n → J (zrw S1 17 x (S1 14)) 0 131 [(0, .ref (a 0)), (1, .int (iZ r)), (3, .int (iZ ((L : Int) / 2 + 3))), (4, .int (iZ (k : Int))), (5, .int (iZ x))] [] := by
            intro u
            induction u with
            | zero =>
              intro x hx
              have hx2 : x = n := by omega
              subst hx2
              have dG2 : dgs 65536 x (S1 14) := fun y hy => by rw [← hS1, st4_14 hy]; exact dO y hy
              have vG2 : vs 65536 (S1 14) x = vs 65536 O x := vs_congr (fun y hy => by rw [← hS1, st4_14 hy])
              have eS : zrw S1 17 x (S1 14) = st4 T x (S1 14) f O := by
                generalize S1 14 = W
                rw [← hS1, st4_G]
              rw [eS]
              refine j_iload hJ dX1_root_131 rfl ?_
              refine j_iload_n hJ dX1_root_133 rfl ?_
              refine j_icmp_ge (tgt := 159) hJ (by decide) ⟨by omega, by omega⟩ ⟨by omega, by omega⟩ dX1_root_134 (fun h134 => ?_) (fun h134 => ?_)
              · exact j_re hJ (ex _ dG2 vG2) ⟨rfl, rfl, rfl, rfl, trivial⟩
              · omega
            | succ u ihu =>
              intro x hx
              have e14 : zrw S1 17 x (S1 14) 14 = S1 14 := zrw_off (by decide)
              refine j_iload hJ dX1_root_131 rfl ?_
              refine j_iload_n hJ dX1_root_133 rfl ?_
              refine j_icmp_ge (tgt := 159) hJ (by decide) ⟨by omega, by omega⟩ ⟨by omega, by omega⟩ dX1_root_134 (fun h134 => ?_) (fun h134 => ?_)
              · omega
              · refine j_aload_n hJ dX1_root_137 rfl ?_
                refine j_bipush hJ (by decide) dX1_root_138 ?_
                refine j_iload hJ dX1_root_140 rfl ?_
                refine j_aload_n hJ dX1_root_142 rfl ?_
                refine j_bipush hJ (by decide) dX1_root_143 ?_
                refine j_iload hJ dX1_root_145 rfl ?_
                refine j_callV hJ (kX1_get l D cI a _ _ _ ⟨by omega, by omega⟩ ⟨by omega, by omega⟩) rfl gX1_root_X1_get rfl hdX1_get rfl ⟨Nat.le_of_ble_eq_true rfl, Nat.le_of_ble_eq_true rfl⟩ (Nat.le_of_ble_eq_true rfl) (Nat.le_of_ble_eq_true rfl) rfl rfl dX1_root_147 (fun _ _ h => False.elim h) (fun r147 Z147 hp147 => ?_)
                obtain ⟨rfl, rfl⟩ := hp147
                rw [e12, show ((x : Nat) : Int).toNat = x by omega, e14]
                refine j_callV hJ (kX1_put l D cI a _ _ _ _ ⟨by omega, by omega⟩ ⟨by omega, by omega⟩) rfl gX1_root_X1_put rfl hdX1_put rfl ⟨Nat.le_of_ble_eq_true rfl, Nat.le_of_ble_eq_true rfl⟩ (Nat.le_of_ble_eq_true rfl) (Nat.le_of_ble_eq_true rfl) rfl rfl dX1_root_150 (fun _ _ h => False.elim h) (fun r150 Z150 hp150 => ?_)
                obtain ⟨rfl, rfl⟩ := hp150
                rw [e15, show ((x : Nat) : Int).toNat = x by omega, zrw_succ]
                refine j_iinc hJ (by decide) dX1_root_153 rfl ?_
                refine j_goto (tgt := 131) hJ (by decide) dX1_root_156 ?_
                exact j_re hJ (ihu (x + 1) (by omega)) ⟨rfl, rfl, rfl, rfl, rfl, trivial⟩
          refine j_iconst hJ dX1_root_128 ?_
          refine j_istore hJ (by decide) dX1_root_129 ?_
          have h9 := inner n 0 (by omega)
          rw [zrw_0] at h9
          exact j_re hJ h9 ⟨rfl, rfl, rfl, rfl, rfl, trivial⟩
        refine j_iload hJ dX1_root_90 rfl ?_
        refine j_if_lt (tgt := 225) hJ (by decide) ⟨by omega, by omega⟩ dX1_root_92 (fun h92 => ?_) (fun h92 => ?_)
        · omega
        · refine j_aload_n hJ dX1_root_95 rfl ?_
          refine j_bipush hJ (by decide) dX1_root_96 ?_
          refine j_iconst hJ dX1_root_98 ?_
          refine j_iconst hJ dX1_root_99 ?_
          refine j_aload_n hJ dX1_root_100 rfl ?_
          refine j_bipush hJ (by decide) dX1_root_101 ?_
          refine j_iconst hJ dX1_root_103 ?_
          refine j_iload hJ dX1_root_104 rfl ?_
          refine j_imul hJ dX1_root_106 ?_
          refine j_iconst hJ dX1_root_107 ?_
          refine j_iadd hJ dX1_root_108 ?_
          rw [show 2 * (k : Int) + 1 = ((2 * k + 1 : Nat) : Int) by omega]
          refine j_callV hJ (kX1_bit l D cI a _ 14 (2 * k + 1) ⟨by omega, by omega⟩ (by omega) dd16) rfl gX1_root_X1_bit rfl hdX1_bit rfl ⟨Nat.le_of_ble_eq_true rfl, Nat.le_of_ble_eq_true rfl⟩ (Nat.le_of_ble_eq_true rfl) (Nat.le_of_ble_eq_true rfl) rfl rfl dX1_root_109 (fun _ _ h => False.elim h) (fun r109 Z109 hp109 => ?_)
          obtain ⟨rfl, rfl⟩ := hp109
          rw [show (14 : Int).toNat + 2 = 16 from rfl, s16, v16]
          refine j_imul hJ dX1_root_112 ?_
          refine j_aload_n hJ dX1_root_113 rfl ?_
          refine j_bipush hJ (by decide) dX1_root_114 ?_
          refine j_iconst hJ dX1_root_116 ?_
          refine j_iload hJ dX1_root_117 rfl ?_
          refine j_imul hJ dX1_root_119 ?_
          rw [show 2 * (k : Int) = ((2 * k : Nat) : Int) by omega]
          refine j_callV hJ (kX1_bit l D cI a _ 14 (2 * k) ⟨by omega, by omega⟩ (by omega) dd16) rfl gX1_root_X1_bit rfl hdX1_bit rfl ⟨Nat.le_of_ble_eq_true rfl, Nat.le_of_ble_eq_true rfl⟩ (Nat.le_of_ble_eq_true rfl) (Nat.le_of_ble_eq_true rfl) rfl rfl dX1_root_120 (fun _ _ h => False.elim h) (fun r120 Z120 hp120 => ?_)
          obtain ⟨rfl, rfl⟩ := hp120
          rw [show (14 : Int).toNat + 2 = 16 from rfl, s16, v16]
          refine j_iadd hJ dX1_root_123 ?_
          generalize 2 * (A / 2 ^ (2 * k + 1) % 2) + A / 2 ^ (2 * k) % 2 = tb at qt r3 st hfit ⊢
          refine j_iload_n hJ dX1_root_124 rfl ?_
          refine j_callV hJ (kX1_shift l D cI a _ 13 2 tb ((L : Int) / 2 + 3) ⟨by omega, by omega⟩ (Or.inr rfl) ⟨r3.1, r3.2⟩ ⟨by omega, by omega⟩ dd15 hfit) rfl gX1_root_X1_shift rfl hdX1_shift rfl ⟨Nat.le_of_ble_eq_true rfl, Nat.le_of_ble_eq_true rfl⟩ (Nat.le_of_ble_eq_true rfl) (Nat.le_of_ble_eq_true rfl) rfl rfl dX1_root_125 (fun _ _ h => False.elim h) (fun r125 Z125 hp125 => ?_)
          obtain ⟨rfl, f, rfl, hf, hv⟩ := hp125
          rw [hn2, e13, w15] at hv
          rw [hn2] at hf
          rw [hn2, e13, st4_R]
          have hv2 : vs 65536 f n = 4 * vs 65536 R n + tb := by rw [hv]; show _ * 4 + _ = _; omega
          exact j_re hJ (aft f tb hf hv2 qt r3) ⟨rfl, rfl, rfl, rfl, trivial⟩
    have d16' : dgs 65536 2100 (T ((14 : Int).toNat + 2)) := d16
    refine j_aload_n hJ dX1_root_46 rfl ?_
    refine j_bipush hJ (by decide) dX1_root_47 ?_
    refine j_iload_n hJ dX1_root_49 rfl ?_
    refine j_callV hJ (kX1_move l D cI a _ _ _ ⟨by omega, by omega⟩ ⟨by omega, by omega⟩) rfl gX1_root_X1_move rfl hdX1_move rfl ⟨Nat.le_of_ble_eq_true rfl, Nat.le_of_ble_eq_true rfl⟩ (Nat.le_of_ble_eq_true rfl) (Nat.le_of_ble_eq_true rfl) rfl rfl dX1_root_50 (fun _ _ h => False.elim h) (fun r50 Z50 hp50 => ?_)
    obtain ⟨rfl, rfl⟩ := hp50
    refine j_aload_n hJ dX1_root_53 rfl ?_
    refine j_bipush hJ (by decide) dX1_root_54 ?_
    refine j_callV hJ (kX1_clear l D cI a _ _ ⟨by omega, by omega⟩) rfl gX1_root_X1_clear rfl hdX1_clear rfl ⟨Nat.le_of_ble_eq_true rfl, Nat.le_of_ble_eq_true rfl⟩ (Nat.le_of_ble_eq_true rfl) (Nat.le_of_ble_eq_true rfl) rfl rfl dX1_root_56 (fun _ _ h => False.elim h) (fun r56 Z56 hp56 => ?_)
    obtain ⟨rfl, rfl⟩ := hp56
    refine j_aload_n hJ dX1_root_59 rfl ?_
    refine j_bipush hJ (by decide) dX1_root_60 ?_
    refine j_callV hJ (kX1_clear l D cI a _ _ ⟨by omega, by omega⟩) rfl gX1_root_X1_clear rfl hdX1_clear rfl ⟨Nat.le_of_ble_eq_true rfl, Nat.le_of_ble_eq_true rfl⟩ (Nat.le_of_ble_eq_true rfl) (Nat.le_of_ble_eq_true rfl) rfl rfl dX1_root_62 (fun _ _ h => False.elim h) (fun r62 Z62 hp62 => ?_)
    obtain ⟨rfl, rfl⟩ := hp62
    rw [show (14 : Int).toNat = 14 from rfl, show (12 : Int).toNat = 12 from rfl, show (13 : Int).toNat = 13 from rfl, hT2]
    refine j_aload_n hJ dX1_root_65 rfl ?_
    refine j_bipush hJ (by decide) dX1_root_66 ?_
    refine j_callV hJ (kX1_length l D cI a T 14 ⟨by omega, by omega⟩ d16') rfl gX1_root_X1_length rfl hdX1_length rfl ⟨Nat.le_of_ble_eq_true rfl, Nat.le_of_ble_eq_true rfl⟩ (Nat.le_of_ble_eq_true rfl) (Nat.le_of_ble_eq_true rfl) rfl rfl dX1_root_68 (fun _ _ h => False.elim h) (fun r68 Z68 hp68 => ?_)
    obtain ⟨rfl, rfl⟩ := hp68
    rw [show (14 : Int).toNat + 2 = 16 from rfl, hN]
    refine j_iconst hJ dX1_root_71 ?_
    refine j_idiv hJ (by omega) ⟨by omega, by omega⟩ ⟨by omega, by omega⟩ (by omega) dX1_root_72 ?_
    refine j_iconst hJ dX1_root_73 ?_
    refine j_iadd hJ dX1_root_74 ?_
    refine j_istore_n hJ (by decide) dX1_root_75 ?_
    refine j_aload_n hJ dX1_root_76 rfl ?_
    refine j_bipush hJ (by decide) dX1_root_77 ?_
    refine j_callV hJ (kX1_bitsOf l D cI a T 14 ⟨by omega, by omega⟩ d16') rfl gX1_root_X1_bitsOf rfl hdX1_bitsOf rfl ⟨Nat.le_of_ble_eq_true rfl, Nat.le_of_ble_eq_true rfl⟩ (Nat.le_of_ble_eq_true rfl) (Nat.le_of_ble_eq_true rfl) rfl rfl dX1_root_79 (fun _ _ h => False.elim h) (fun r79 Z79 hp79 => ?_)
    obtain ⟨⟨zb, rfl, hzb, hzb2⟩, rfl⟩ := hp79
    rw [show (14 : Int).toNat + 2 = 16 from rfl, v16] at hzb
    refine j_iconst hJ dX1_root_82 ?_
    refine j_iadd hJ dX1_root_83 ?_
    refine j_iconst hJ dX1_root_84 ?_
    refine j_idiv hJ (by omega) ⟨by omega, by omega⟩ ⟨by omega, by omega⟩ (by omega) dX1_root_85 ?_
    refine j_iconst hJ dX1_root_86 ?_
    refine j_isub hJ dX1_root_87 ?_
    refine j_istore hJ (by decide) dX1_root_88 ?_
    have hp4 : (2 : Int) ^ zb ≤ 4 ^ ((zb + 1) / 2) := by (rw [show (4 : Int) = 2 ^ 2 by decide, pw_mul]; exact pw_mono (by decide) (by omega))
    have hA2 : A / 4 ^ ((zb + 1) / 2) = 0 := Int.ediv_eq_zero_of_lt hb (by have := hzb.1; omega)
    have d17 : dgs 65536 n (T 17) := dgs_mono (m4.1 15 (by omega)) (by omega)
    have v0 : vs 65536 (fun _ => 0) n = 0 := vs_zero (fun _ _ => rfl)
    have h9 := loop ((zb + 1) / 2) (T 17) (fun _ => 0) (fun _ => 0) (by omega) d17 (dgs_mono zd (by omega)) (dgs_mono zd (by omega)) (by rw [v0, hA2]; decide) (by rw [v0, hA2]; decide) (by rw [v0, hA2]; decide)
    unfold st4 at h9
    rw [zrw_id (fun _ _ => rfl), zrw_id (fun y hy => (t15 y (by omega)).symm), zrw_id (fun y hy => (t14 y (by omega)).symm)] at h9
    exact j_re hJ h9 ⟨rfl, rfl, rfl, by show some (Value.int (iZ (((zb : Int) + 1) / 2 - 1))) = _; rw [show (((zb + 1) / 2 : Nat) : Int) - 1 = ((zb : Int) + 1) / 2 - 1 by omega], trivial⟩
  refine j_aload_n hJ dX1_root_0 rfl ?_
  refine j_iload_n hJ dX1_root_1 rfl ?_
  refine j_callS hJ (kX1_isRegister l D _ ⟨by omega, by omega⟩) rfl gX1_root_X1_isRegister rfl hsX1_isRegister rfl ⟨Nat.le_of_ble_eq_true rfl, Nat.le_of_ble_eq_true rfl⟩ (Nat.le_of_ble_eq_true rfl) (Nat.le_of_ble_eq_true rfl) dX1_root_2 (fun _ h => False.elim h) (fun r2 hp2 => ?_)
  subst hp2
  refine j_if_eq (tgt := 19) hJ (by decide) ⟨by omega, by omega⟩ dX1_root_5 (fun h5 => ?_) (fun h5 => ?_)
  · rw [if_neg (by omega)] at hJ
    refine j_iconst hJ dX1_root_19 ?_
    refine m_putcode hJ hin (by decide +kernel) dX1_root_20 ?_
    refine j_aload_n hJ dX1_root_23 rfl ?_
    refine m_code hJ hin (by decide +kernel) dX1_root_24 ?_
    rw [zup_eq]
    refine j_if_le (tgt := 31) hJ (by decide) ⟨by omega, by omega⟩ dX1_root_27 (fun h27 => absurd h27 (by decide)) (fun h27 => ?_)
    exact j_vret hJ (Nat.le_of_ble_eq_true rfl) (⟨rfl, zup_eq _ _ _ _, hI.code 1⟩) dX1_root_30
  · refine j_iload_n hJ dX1_root_8 rfl ?_
    refine j_callS hJ (kX1_isRegister l D _ ⟨by omega, by omega⟩) rfl gX1_root_X1_isRegister rfl hsX1_isRegister rfl ⟨Nat.le_of_ble_eq_true rfl, Nat.le_of_ble_eq_true rfl⟩ (Nat.le_of_ble_eq_true rfl) (Nat.le_of_ble_eq_true rfl) dX1_root_9 (fun _ h => False.elim h) (fun r9 hp9 => ?_)
    subst hp9
    refine j_if_eq (tgt := 19) hJ (by decide) ⟨by omega, by omega⟩ dX1_root_12 (fun h12 => ?_) (fun h12 => ?_)
    · rw [if_neg (by omega)] at hJ
      refine j_iconst hJ dX1_root_19 ?_
      refine m_putcode hJ hin (by decide +kernel) dX1_root_20 ?_
      refine j_aload_n hJ dX1_root_23 rfl ?_
      refine m_code hJ hin (by decide +kernel) dX1_root_24 ?_
      rw [zup_eq]
      refine j_if_le (tgt := 31) hJ (by decide) ⟨by omega, by omega⟩ dX1_root_27 (fun h27 => absurd h27 (by decide)) (fun h27 => ?_)
      exact j_vret hJ (Nat.le_of_ble_eq_true rfl) (⟨rfl, zup_eq _ _ _ _, hI.code 1⟩) dX1_root_30
    · rw [if_pos ⟨⟨by omega, by omega⟩, ⟨by omega, by omega⟩⟩] at hJ
      have sj := (hI.2 i.toNat (by omega)).2.1
      have scj := sg_cases (g i.toNat)
      refine j_iconst hJ dX1_root_15 ?_
      refine j_goto (tgt := 20) hJ (by decide) dX1_root_16 ?_
      refine m_putcode hJ hin (by decide +kernel) dX1_root_20 ?_
      refine j_aload_n hJ dX1_root_23 rfl ?_
      refine m_code hJ hin (by decide +kernel) dX1_root_24 ?_
      rw [zup_eq]
      refine j_if_le (tgt := 31) hJ (by decide) ⟨by omega, by omega⟩ dX1_root_27 (fun h27 => ?_) (fun h27 => absurd h27 (by decide))
      refine j_aload_n hJ dX1_root_31 rfl ?_
      refine m_sign hJ hin (by decide +kernel) dX1_root_32 ?_
      refine j_iload_n hJ dX1_root_35 rfl ?_
      refine m_ald_sg hJ ⟨by omega, by omega⟩ dX1_root_36 ?_
      rw [zup_off _ 0 _ _ (by omega), sj]
      refine j_if_ge (tgt := 46) hJ (by decide) ⟨by omega, by omega⟩ dX1_root_37 (fun h37 => ?_) (fun h37 => ?_)
      · rw [if_neg (by omega)] at hJ
        exact j_re hJ (main ⟨by omega, by omega⟩ ⟨by omega, by omega⟩ (by omega) hJ) ⟨rfl, rfl, rfl, trivial⟩
      · rw [if_pos (by omega)] at hJ
        refine j_aload_n hJ dX1_root_40 rfl ?_
        refine j_iconst hJ dX1_root_41 ?_
        refine m_putcode hJ hin (by decide +kernel) dX1_root_42 ?_
        exact j_vret hJ (Nat.le_of_ble_eq_true rfl) (⟨rfl, zup_eq _ _ _ _, (hI.code 0).code 2⟩) dX1_root_45
end M12
