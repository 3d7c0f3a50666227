theorem ite01 (P : Prop) [Decidable P] : (P ∧ (if P then (1 : Int) else 0) = 1) ∨ (¬ P ∧ (if P then (1 : Int) else 0) = 0) := by
  by_cases h : P
  · exact Or.inl ⟨h, if_pos h⟩
  · exact Or.inr ⟨h, if_neg h⟩
section M11
variable (l : Launch) (D : va_G) (cI : ClassId) (a : Nat → Nat) (Z : ZZ)
/-- the quotient and the rest, put back -/
theorem div_fin {S : ZZ} {g : Nat → Int} (h : MI S g) {q t i j : Nat} (hq : q < 12) (ht : t < 12) (hqt : q ≠ t) (hi : i < 12) (hj : j < 12) (hb : g j ≠ 0) (h14 : vs 65536 (S 14) 2100 = ((g i).natAbs : Int) / ((g j).natAbs : Int)) (h15 : vs 65536 (S 15) 2100 = ((g i).natAbs : Int) % ((g j).natAbs : Int))
    (s1 : S 1 12 = if vs 65536 (S 14) 2100 = 0 then 0 else (g i).sign * (g j).sign) (s2 : S 1 13 = if vs 65536 (S 15) 2100 = 0 then 0 else (g i).sign) :
    MI (mmov (mmov S q 12) t 13) (gset (gset g q ((g i).tdiv (g j))) t ((g i).tmod (g j))) ∧ mmov (mmov S q 12) t 13 0 0 = S 0 0 := by
  have c1 := sg_cases (g i)
  have c2 := sg_cases (g j)
  have d1 := tdiv_sg (g i) (g j)
  have d2 := tmod_sg (z := g i) hb
  have l1 := (h.2 i hi).2.2
  have l2 := (h.2 j hj).2.2
  have hbp : 0 < ((g j).natAbs : Int) := by omega
  have b1 : 0 ≤ ((g i).natAbs : Int) / ((g j).natAbs : Int) := Int.ediv_nonneg (by omega) (by omega)
  have b2 : ((g i).natAbs : Int) / ((g j).natAbs : Int) ≤ ((g i).natAbs : Int) := Int.ediv_le_self _ (by omega)
  have b3 := Int.emod_nonneg ((g i).natAbs : Int) (Int.ne_of_gt hbp)
  have b4 := Int.emod_lt_of_pos ((g i).natAbs : Int) hbp
  have b5 : ((g i).natAbs : Int) = 0 → ((g i).natAbs : Int) / ((g j).natAbs : Int) = 0 := fun e => by rw [e, Int.zero_ediv]
  have b6 : ((g i).natAbs : Int) = 0 → ((g i).natAbs : Int) % ((g j).natAbs : Int) = 0 := fun e => by rw [e, Int.zero_emod]
  generalize ((g i).natAbs : Int) / ((g j).natAbs : Int) = Q at *
  generalize ((g i).natAbs : Int) % ((g j).natAbs : Int) = R at *
  have e1 : (((g i).tdiv (g j)).natAbs : Int) = Q ∧ S 1 12 = ((g i).tdiv (g j)).sign := by
    rw [s1, h14, d1]
    have c3 := sg_cases ((g i).sign * (g j).sign * Q)
    rcases c1 with ⟨_, f1, _⟩ | ⟨_, f1, _⟩ | ⟨_, f1, _⟩ <;> rcases c2 with ⟨_, f2, _⟩ | ⟨_, f2, _⟩ | ⟨_, f2, _⟩ <;> rw [f1, f2] at c3 ⊢ <;> split <;> omega
  have e2 : (((g i).tmod (g j)).natAbs : Int) = R ∧ S 1 13 = ((g i).tmod (g j)).sign := by
    rw [s2, h15, d2]
    have c3 := sg_cases ((g i).sign * R)
    rcases c1 with ⟨_, f1, _⟩ | ⟨_, f1, _⟩ | ⟨_, f1, _⟩ <;> rw [f1] at c3 ⊢ <;> split <;> omega
  have m1 : MI (mmov S q 12) (gset g q ((g i).tdiv (g j))) := MI.reg h hq (h.1 12 (by omega)) (by rw [e1.1]; exact h14) e1.2 (by rw [e1.1]; omega)
  have f15 : mmov S q 12 15 = S 15 := mmov_off (by omega) (by omega)
  refine ⟨MI.reg m1 ht (m1.1 13 (by omega)) ?_ ?_ (by rw [e2.1]; omega), ?_⟩
  · rw [f15, e2.1]; exact h15
  · rw [mmov_sgo (by omega)]; exact e2.2
  · rw [mmov_off (by omega) (by omega), mmov_off (by omega) (by omega)]
set_option maxRecDepth 20000 in
theorem kX1_divide (g : Nat → Int) (hI : MI Z g) (q t i j : Int) (h0 : i32 q) (h1 : i32 t) (h2 : i32 i) (h3 : i32 j) : Ct l D (tM cI) (wM cI a) yX1_divide wsX1_divide 3 0 68 [.ref (a 0), .int (iZ q), .int (iZ t), .int (iZ i), .int (iZ j)] Z (fun v Z' => v = none ∧ Z' 0 0 = (oDiv g q t i j).1 ∧ MI Z' (oDiv g q t i j).2) nX := by
  refine Ct.of (cc := cX1_divide) (maxL := 7) (ret := none) rfl (by decide) rfl (Nat.le_of_ble_eq_true rfl) (fun J hJ => ?_)
  have hin : ∀ w ∈ u_ws RX1 TX1 3, w ∈ wsX1_divide := by decide +kernel
  unfold oDiv at hJ
  have p0 := isR_spec q
  have p1 := isR_spec t
  have p2 := isR_spec i
  have p3 := isR_spec j
  have main : isRg q → isRg t → isRg i → isRg j → q ≠ t → g j.toNat ≠ 0 → IsJ l D (tM cI) (wM cI a) cX1_divide 7 wsX1_divide RX1 3 0 68 none (fun v Z' => v = none ∧ Z' 0 0 = 0 ∧ MI Z' (gset (gset g q.toNat ((g i.toNat).tdiv (g j.toNat))) t.toNat ((g i.toNat).tmod (g j.toNat)))) nX J → J (zup (zup Z 0 0 0) 0 0 0) 0 78 [(0, .ref (a 0)), (1, .int (iZ q)), (2, .int (iZ t)), (3, .int (iZ i)), (4, .int (iZ j))] [] := by
    intro hq ht hi hj hqt hb hJ
    clear p0 p1 p2 p3
    have hc := (hI.code 0).code 0
    have hc0 : zup (zup Z 0 0 0) 0 0 0 0 0 = 0 := zup_eq _ _ _ _
    generalize zup (zup Z 0 0 0) 0 0 0 = Y at hc hc0
    have m1 := hc.mov (j := 14) (i := i.toNat) (by omega) (by omega)
    have m2 := m1.mov (j := 15) (i := j.toNat) (by omega) (by omega)
    have zd : dgs 65536 2100 (fun _ => 0) := fun _ _ => ⟨by show (0 : Int) ≤ 0; decide, by show (0 : Int) < 65536; decide⟩
    have m3 := (m2.row (j := 12) (n := 2100) (by omega) zd).sgn (j := 12) (by omega) 0
    have m4 := (m3.row (j := 13) (n := 2100) (by omega) zd).sgn (j := 13) (by omega) 0
    have hT : mclr (mclr (mmov (mmov Y 14 i.toNat) 15 j.toNat) 12) 13 = zup (zrw (zup (zrw (zup (zrw (zup (zrw Y (14 + 2) 2100 (Y (i.toNat + 2))) 1 14 (Y 1 i.toNat)) (15 + 2) 2100 (zup (zrw Y (14 + 2) 2100 (Y (i.toNat + 2))) 1 14 (Y 1 i.toNat) (j.toNat + 2))) 1 15 (zup (zrw Y (14 + 2) 2100 (Y (i.toNat + 2))) 1 14 (Y 1 i.toNat) 1 j.toNat)) (12 + 2) 2100 (fun _ => 0)) 1 12 0) (13 + 2) 2100 (fun _ => 0)) 1 13 0 := rfl
    rw [← hT] at m4
    have t00 : mclr (mclr (mmov (mmov Y 14 i.toNat) 15 j.toNat) 12) 13 0 0 = 0 := by rw [mclr_off (by omega) (by omega), mclr_off (by omega) (by omega), mmov_off (by omega) (by omega), mmov_off (by omega) (by omega)]; exact hc0
    have t16 : ∀ k, k < 2100 → mclr (mclr (mmov (mmov Y 14 i.toNat) 15 j.toNat) 12) 13 16 k = Y (i.toNat + 2) k := fun k hk => by rw [mclr_off (by omega) (by omega), mclr_off (by omega) (by omega), mmov_off (by omega) (by omega), mmov_row hk]
    have t17 : ∀ k, k < 2100 → mclr (mclr (mmov (mmov Y 14 i.toNat) 15 j.toNat) 12) 13 17 k = Y (j.toNat + 2) k := fun k hk => by rw [mclr_off (by omega) (by omega), mclr_off (by omega) (by omega), mmov_row hk, mmov_off (by omega) (by omega)]
    have t14 : ∀ k, k < 2100 → mclr (mclr (mmov (mmov Y 14 i.toNat) 15 j.toNat) 12) 13 14 k = 0 := fun k hk => by rw [mclr_off (by omega) (by omega), mclr_row hk]
    have t15 : ∀ k, k < 2100 → mclr (mclr (mmov (mmov Y 14 i.toNat) 15 j.toNat) 12) 13 15 k = 0 := fun k hk => mclr_row hk
    have s14 : mclr (mclr (mmov (mmov Y 14 i.toNat) 15 j.toNat) 12) 13 1 14 = (g i.toNat).sign := by rw [mclr_sgo (by omega), mclr_sgo (by omega), mmov_sgo (by omega), mmov_sg]; exact (hc.2 i.toNat (by omega)).2.1
    have s15 : mclr (mclr (mmov (mmov Y 14 i.toNat) 15 j.toNat) 12) 13 1 15 = (g j.toNat).sign := by rw [mclr_sgo (by omega), mclr_sgo (by omega), mmov_sg, mmov_sgo (by omega)]; exact (hc.2 j.toNat (by omega)).2.1
    have v16 : vs 65536 (mclr (mclr (mmov (mmov Y 14 i.toNat) 15 j.toNat) 12) 13 16) 2100 = ((g i.toNat).natAbs : Int) := by rw [vs_congr t16]; exact (hc.2 i.toNat (by omega)).1
    have v17 : vs 65536 (mclr (mclr (mmov (mmov Y 14 i.toNat) 15 j.toNat) 12) 13 17) 2100 = ((g j.toNat).natAbs : Int) := by rw [vs_congr t17]; exact (hc.2 j.toNat (by omega)).1
    have d16 := m4.1 14 (by omega)
    have d17 := m4.1 15 (by omega)
    have d14 := m4.1 12 (by omega)
    have d15 := m4.1 13 (by omega)
    have hYT : ∀ T : ZZ, mclr (mclr (mmov (mmov Y 14 i.toNat) 15 j.toNat) 12) 13 = T → J T 0 105 [(0, .ref (a 0)), (1, .int (iZ q)), (2, .int (iZ t)), (3, .int (iZ i)), (4, .int (iZ j))] [] := by
      intro T hT2
      clear hT
      rw [hT2] at m4 t00 t14 t15 s14 s15 v16 v17 d16 d17 d14 d15
      clear t16 t17 m1 m2 m3 hT2
      have hbp : 0 < ((g j.toNat).natAbs : Int) := by omega
      have ln1 : lenr (T 17) 2100 ≤ 1024 := (lenr_iff (B := 65536) (by decide) d17).mpr (by rw [v17]; exact (hc.2 j.toNat (by omega)).2.2)
      have bl17 := lenr_lt (B := 65536) (by decide) d17
      rw [v17] at bl17
      have hv17 : ∀ n, lenr (T 17) 2100 ≤ n → n ≤ 2100 → vs 65536 (T 17) n = ((g j.toNat).natAbs : Int) := fun n a1 a2 => by
        rw [← v17]
        exact (vs_top (m := n) a2 (fun y b1 b2 => lenr_zero (T 17) 2100 y (by omega) b2)).symm
      have hA0 : 0 ≤ ((g i.toNat).natAbs : Int) := by omega
      generalize hA : ((g i.toNat).natAbs : Int) = A at v16 hA0
      generalize hB : ((g j.toNat).natAbs : Int) = b at v17 hbp bl17 hv17
      generalize hN : lenr (T 17) 2100 = n0 at ln1 bl17 hv17
      have fin : ∀ (hR hQ : Nat → Int), dgs 65536 (n0 + 1) hR → dgs 65536 2100 hQ → vs 65536 hR (n0 + 1) = A % b → vs 65536 hQ 2100 = A / b → J (zrw (zrw T 15 (n0 + 1) hR) 14 2100 hQ) 0 206 [(0, .ref (a 0)), (1, .int (iZ q)), (2, .int (iZ t))] [] := by
        intro hR hQ dR dQ eR eQ
        have r14 : ∀ k, k < 2100 → zrw (zrw T 15 (n0 + 1) hR) 14 2100 hQ 14 k = hQ k := fun k hk => zrw_in hk
        have r15 : zrw (zrw T 15 (n0 + 1) hR) 14 2100 hQ 15 = zrw T 15 (n0 + 1) hR 15 := zrw_off (by omega)
        have r1 : zrw (zrw T 15 (n0 + 1) hR) 14 2100 hQ 1 = T 1 := by rw [zrw_off (by omega), zrw_off (by omega)]
        have r0 : zrw (zrw T 15 (n0 + 1) hR) 14 2100 hQ 0 = T 0 := by rw [zrw_off (by omega), zrw_off (by omega)]
        have x14 : vs 65536 (zrw (zrw T 15 (n0 + 1) hR) 14 2100 hQ 14) 2100 = A / b := by rw [vs_congr r14]; exact eQ
        have x15 : vs 65536 (zrw (zrw T 15 (n0 + 1) hR) 14 2100 hQ 15) 2100 = A % b := by
          rw [r15, vs_top (m := n0 + 1) (by omega) (fun y a1 a2 => by rw [zrw_ge a1]; exact t15 y a2), vs_congr (g := hR) (fun y hy => zrw_in hy)]; exact eR
        have mS := (m4.row (j := 13) (n := n0 + 1) (by omega) dR).row (j := 12) (n := 2100) (by omega) dQ
        have d14' : dgs 65536 2100 (zrw (zrw T 15 (n0 + 1) hR) 14 2100 hQ 14) := mS.1 12 (by omega)
        have d15' : dgs 65536 2100 (zrw (zrw T 15 (n0 + 1) hR) 14 2100 hQ 15) := mS.1 13 (by omega)
        have k14 := lenr_0iff (B := 65536) (by decide) d14'
        have k15 := lenr_0iff (B := 65536) (by decide) d15'
        rw [x14] at k14
        rw [x15] at k15
        have l14 := lenr_le (zrw (zrw T 15 (n0 + 1) hR) 14 2100 hQ 14) 2100
        have l15 := lenr_le (zrw (zrw T 15 (n0 + 1) hR) 14 2100 hQ 15) 2100
        generalize zrw (zrw T 15 (n0 + 1) hR) 14 2100 hQ = S at r1 r0 x14 x15 mS k14 k15 l14 l15 d14' d15'
        generalize hq9 : A / b = Q at k14 x14 eQ
        generalize hr9 : A % b = R at k15 x15 eR
        have go2 : ∀ s1 s2 : Int, s1 = (if Q = 0 then 0 else (g i.toNat).sign * (g j.toNat).sign) → s2 = (if R = 0 then 0 else (g i.toNat).sign) → J (zup (zup S 1 12 s1) 1 13 s2) 0 268 [(0, .ref (a 0)), (1, .int (iZ q)), (2, .int (iZ t))] [] := by
          intro s1 s2 hs1 hs2
          have mF := (mS.sgn (j := 12) (by omega) s1).sgn (j := 13) (by omega) s2
          have y14 : zup (zup S 1 12 s1) 1 13 s2 14 = S 14 := by rw [zup_off _ 1 _ _ (by omega), zup_off _ 1 _ _ (by omega)]
          have y15 : zup (zup S 1 12 s1) 1 13 s2 15 = S 15 := by rw [zup_off _ 1 _ _ (by omega), zup_off _ 1 _ _ (by omega)]
          have hf := div_fin mF (q := q.toNat) (t := t.toNat) (i := i.toNat) (j := j.toNat) (by omega) (by omega) (by omega) (by omega) (by omega) hb (by rw [y14, x14, hA, hB, hq9]) (by rw [y15, x15, hA, hB, hr9]) (by rw [y14, x14, zup_ne (by omega), zup_eq]; exact hs1) (by rw [y15, x15, zup_eq]; exact hs2)
          refine j_aload_n hJ dX1_divide_268 rfl ?_
          refine j_iload_n hJ dX1_divide_269 rfl ?_
          refine j_bipush hJ (by decide) dX1_divide_270 ?_
          refine j_callV hJ (kX1_move l D cI a _ _ _ ⟨by omega, by omega⟩ ⟨by omega, by omega⟩) rfl gX1_divide_X1_move rfl hdX1_move rfl ⟨Nat.le_of_ble_eq_true rfl, Nat.le_of_ble_eq_true rfl⟩ (Nat.le_of_ble_eq_true rfl) (Nat.le_of_ble_eq_true rfl) rfl rfl dX1_divide_272 (fun _ _ h => False.elim h) (fun r272 Z272 hp272 => ?_)
          obtain ⟨rfl, rfl⟩ := hp272
          refine j_aload_n hJ dX1_divide_275 rfl ?_
          refine j_iload_n hJ dX1_divide_276 rfl ?_
          refine j_bipush hJ (by decide) dX1_divide_277 ?_
          refine j_callV hJ (kX1_move l D cI a _ _ _ ⟨by omega, by omega⟩ ⟨by omega, by omega⟩) rfl gX1_divide_X1_move rfl hdX1_move rfl ⟨Nat.le_of_ble_eq_true rfl, Nat.le_of_ble_eq_true rfl⟩ (Nat.le_of_ble_eq_true rfl) (Nat.le_of_ble_eq_true rfl) rfl rfl dX1_divide_279 (fun _ _ h => False.elim h) (fun r279 Z279 hp279 => ?_)
          obtain ⟨rfl, rfl⟩ := hp279
          exact j_vret hJ (Nat.le_of_ble_eq_true rfl) (⟨rfl, by rw [show (12 : Int).toNat = 12 from rfl, show (13 : Int).toNat = 13 from rfl, hf.2, zup_ne (by omega), zup_ne (by omega), r0]; exact t00, hf.1⟩) dX1_divide_282
        have c12 : (12 : Int).toNat = 12 := rfl
        have c13 : (13 : Int).toNat = 13 := rfl
        have mS2 : ∀ s1, dgs 65536 2100 (zup S 1 12 s1 ((13 : Int).toNat + 2)) := fun s1 => by show dgs 65536 2100 (zup S 1 12 s1 15); rw [zup_off _ 1 _ _ (by omega)]; exact d15'
        refine j_aload_n hJ dX1_divide_206 rfl ?_
        refine m_sign hJ hin (by decide +kernel) dX1_divide_207 ?_
        refine j_bipush hJ (by decide) dX1_divide_210 ?_
        refine j_aload_n hJ dX1_divide_212 rfl ?_
        refine j_bipush hJ (by decide) dX1_divide_213 ?_
        refine j_callV hJ (kX1_length l D cI a S 12 ⟨by omega, by omega⟩ d14') rfl gX1_divide_X1_length rfl hdX1_length rfl ⟨Nat.le_of_ble_eq_true rfl, Nat.le_of_ble_eq_true rfl⟩ (Nat.le_of_ble_eq_true rfl) (Nat.le_of_ble_eq_true rfl) rfl rfl dX1_divide_215 (fun _ _ h => False.elim h) (fun r215 Z215 hp215 => ?_)
        obtain ⟨rfl, rfl⟩ := hp215
        rw [show (12 : Int).toNat + 2 = 14 from rfl]
        refine j_if_ne (tgt := 225) hJ (by decide) ⟨by omega, by omega⟩ dX1_divide_218 (fun h218 => ?_) (fun h218 => ?_)
        · refine j_aload_n hJ dX1_divide_225 rfl ?_
          refine m_sign hJ hin (by decide +kernel) dX1_divide_226 ?_
          refine j_bipush hJ (by decide) dX1_divide_229 ?_
          refine m_ald_sg hJ ⟨by omega, by omega⟩ dX1_divide_231 ?_
          refine j_aload_n hJ dX1_divide_232 rfl ?_
          refine m_sign hJ hin (by decide +kernel) dX1_divide_233 ?_
          refine j_bipush hJ (by decide) dX1_divide_236 ?_
          refine m_ald_sg hJ ⟨by omega, by omega⟩ dX1_divide_238 ?_
          rw [r1, show (14 : Int).toNat = 14 from rfl, show (15 : Int).toNat = 15 from rfl, s14, s15]
          refine j_imul hJ dX1_divide_239 ?_
          refine m_ast_sg hJ ⟨by omega, by omega⟩ dX1_divide_240 ?_
          rw [c12]
          refine j_aload_n hJ dX1_divide_241 rfl ?_
          refine m_sign hJ hin (by decide +kernel) dX1_divide_242 ?_
          refine j_bipush hJ (by decide) dX1_divide_245 ?_
          refine j_aload_n hJ dX1_divide_247 rfl ?_
          refine j_bipush hJ (by decide) dX1_divide_248 ?_
          refine j_callV hJ (kX1_length l D cI a _ 13 ⟨by omega, by omega⟩ (mS2 _)) rfl gX1_divide_X1_length rfl hdX1_length rfl ⟨Nat.le_of_ble_eq_true rfl, Nat.le_of_ble_eq_true rfl⟩ (Nat.le_of_ble_eq_true rfl) (Nat.le_of_ble_eq_true rfl) rfl rfl dX1_divide_250 (fun _ _ h => False.elim h) (fun r250 Z250 hp250 => ?_)
          obtain ⟨rfl, rfl⟩ := hp250
          rw [show (13 : Int).toNat + 2 = 15 from rfl, zup_off _ 1 _ _ (j' := 15) (by omega)]
          refine j_if_ne (tgt := 260) hJ (by decide) ⟨by omega, by omega⟩ dX1_divide_253 (fun h253 => ?_) (fun h253 => ?_)
          · refine j_aload_n hJ dX1_divide_260 rfl ?_
            refine m_sign hJ hin (by decide +kernel) dX1_divide_261 ?_
            refine j_bipush hJ (by decide) dX1_divide_264 ?_
            refine m_ald_sg hJ ⟨by omega, by omega⟩ dX1_divide_266 ?_
            try rw [zup_ne (by omega), r1, show (14 : Int).toNat = 14 from rfl, s14]
            refine m_ast_sg hJ ⟨by omega, by omega⟩ dX1_divide_267 ?_
            first | exact go2 _ _ (by rw [if_pos (by omega)]) (by rw [if_pos (by omega)]) | exact go2 _ _ (by rw [if_pos (by omega)]) (by rw [if_neg (by omega)]) | exact go2 _ _ (by rw [if_neg (by omega)]) (by rw [if_pos (by omega)]) | exact go2 _ _ (by rw [if_neg (by omega)]) (by rw [if_neg (by omega)])
          · refine j_iconst hJ dX1_divide_256 ?_
            refine j_goto (tgt := 267) hJ (by decide) dX1_divide_257 ?_
            try rw [zup_ne (by omega), r1, show (14 : Int).toNat = 14 from rfl, s14]
            refine m_ast_sg hJ ⟨by omega, by omega⟩ dX1_divide_267 ?_
            first | exact go2 _ _ (by rw [if_pos (by omega)]) (by rw [if_pos (by omega)]) | exact go2 _ _ (by rw [if_pos (by omega)]) (by rw [if_neg (by omega)]) | exact go2 _ _ (by rw [if_neg (by omega)]) (by rw [if_pos (by omega)]) | exact go2 _ _ (by rw [if_neg (by omega)]) (by rw [if_neg (by omega)])
        · refine j_iconst hJ dX1_divide_221 ?_
          refine j_goto (tgt := 240) hJ (by decide) dX1_divide_222 ?_
          refine m_ast_sg hJ ⟨by omega, by omega⟩ dX1_divide_240 ?_
          rw [c12]
          refine j_aload_n hJ dX1_divide_241 rfl ?_
          refine m_sign hJ hin (by decide +kernel) dX1_divide_242 ?_
          refine j_bipush hJ (by decide) dX1_divide_245 ?_
          refine j_aload_n hJ dX1_divide_247 rfl ?_
          refine j_bipush hJ (by decide) dX1_divide_248 ?_
          refine j_callV hJ (kX1_length l D cI a _ 13 ⟨by omega, by omega⟩ (mS2 _)) rfl gX1_divide_X1_length rfl hdX1_length rfl ⟨Nat.le_of_ble_eq_true rfl, Nat.le_of_ble_eq_true rfl⟩ (Nat.le_of_ble_eq_true rfl) (Nat.le_of_ble_eq_true rfl) rfl rfl dX1_divide_250 (fun _ _ h => False.elim h) (fun r250 Z250 hp250 => ?_)
          obtain ⟨rfl, rfl⟩ := hp250
          rw [show (13 : Int).toNat + 2 = 15 from rfl, zup_off _ 1 _ _ (j' := 15) (by omega)]
          refine j_if_ne (tgt := 260) hJ (by decide) ⟨by omega, by omega⟩ dX1_divide_253 (fun h253 => ?_) (fun h253 => ?_)
          · refine j_aload_n hJ dX1_divide_260 rfl ?_
            refine m_sign hJ hin (by decide +kernel) dX1_divide_261 ?_
            refine j_bipush hJ (by decide) dX1_divide_264 ?_
            refine m_ald_sg hJ ⟨by omega, by omega⟩ dX1_divide_266 ?_
            try rw [zup_ne (by omega), r1, show (14 : Int).toNat = 14 from rfl, s14]
            refine m_ast_sg hJ ⟨by omega, by omega⟩ dX1_divide_267 ?_
            first | exact go2 _ _ (by rw [if_pos (by omega)]) (by rw [if_pos (by omega)]) | exact go2 _ _ (by rw [if_pos (by omega)]) (by rw [if_neg (by omega)]) | exact go2 _ _ (by rw [if_neg (by omega)]) (by rw [if_pos (by omega)]) | exact go2 _ _ (by rw [if_neg (by omega)]) (by rw [if_neg (by omega)])
          · refine j_iconst hJ dX1_divide_256 ?_
            refine j_goto (tgt := 267) hJ (by decide) dX1_divide_257 ?_
            try rw [zup_ne (by omega), r1, show (14 : Int).toNat = 14 from rfl, s14]
            refine m_ast_sg hJ ⟨by omega, by omega⟩ dX1_divide_267 ?_
            first | exact go2 _ _ (by rw [if_pos (by omega)]) (by rw [if_pos (by omega)]) | exact go2 _ _ (by rw [if_pos (by omega)]) (by rw [if_neg (by omega)]) | exact go2 _ _ (by rw [if_neg (by omega)]) (by rw [if_pos (by omega)]) | exact go2 _ _ (by rw [if_neg (by omega)]) (by rw [if_neg (by omega)])
      clear d14 d15 s14 s15 t00 m4
      have e5 : ((n0 : Int) + 1).toNat = n0 + 1 := by omega
      have e13 : (13 : Int).toNat + 2 = 15 := rfl
      have e15 : (15 : Int).toNat + 2 = 17 := rfl
      have hpn : 65536 ^ (n0 + 1) = 65536 ^ n0 * (65536 : Int) := pw_s 65536 n0
      have hb17 := hv17 (n0 + 1) (by omega) (by omega)
      have d15z : dgs 65536 2100 (T 15) := fun k hk => by rw [t15 k hk]; exact ⟨by decide, by decide⟩
      have loop : ∀ (k : Nat) (hR hQ : Nat → Int), k ≤ 33600 → dgs 65536 (n0 + 1) hR → dgs 65536 2100 hQ → vs 65536 hR (n0 + 1) = A / 2 ^ k % b → vs 65536 hQ 2100 = A / 2 ^ k / b * 2 ^ k → J (zrw (zrw T 15 (n0 + 1) hR) 14 2100 hQ) 0 125 [(0, .ref (a 0)), (1, .int (iZ q)), (2, .int (iZ t)), (5, .int (iZ ((n0 : Int) + 1))), (6, .int (iZ ((k : Int) - 1)))] [] := by
        intro k
        induction k with
        | zero =>
          intro hR hQ hk dR dQ eR eQ
          rw [Int.pow_zero, Int.ediv_one] at eR eQ
          refine j_iload hJ dX1_divide_125 rfl ?_
          refine j_if_lt (tgt := 206) hJ (by decide) ⟨by omega, by omega⟩ dX1_divide_127 (fun h127 => ?_) (fun h127 => ?_)
          · exact j_re hJ (fin hR hQ dR dQ eR (by omega)) ⟨rfl, rfl, rfl, trivial⟩
          · omega
        | succ k ih =>
          intro hR hQ hk dR dQ eR eQ
          have st := div_step2 (A := A) hbp (k := k) hA0
          have r1 := Int.emod_nonneg (A / 2 ^ (k + 1)) (Int.ne_of_gt hbp)
          have r2 := Int.emod_lt_of_pos (A / 2 ^ (k + 1)) hbp
          have r3 : 0 ≤ A / 2 ^ k % 2 ∧ A / 2 ^ k % 2 < 2 := by omega
          have hfree : vs 65536 hQ 2100 % 2 ^ (16 * (k / 16) + k % 16 + 1) = 0 := by
            rw [show 16 * (k / 16) + k % 16 + 1 = k + 1 by omega, eQ]
            exact Int.mul_emod_left _ _
          have hq1 : k / 16 < 2100 := by omega
          obtain ⟨ed, f1, f2, f3⟩ := bit_free dQ hq1 (show k % 16 < 16 by omega) hfree
          have pk : (2 : Int) ^ k = 65536 ^ (k / 16) * ((2 ^ (k % 16) : Nat) : Int) := by
            rw [pw2_cast, show (65536 : Int) = 2 ^ 16 by decide, pw_mul, ← Int.pow_add, show 16 * (k / 16) + k % 16 = k by omega]
          clear hfree
          rw [show (((k + 1 : Nat) : Int) - 1) = (k : Int) by omega]
          have c14 : zrw (zrw T 15 (n0 + 1) hR) 14 2100 hQ 16 = T 16 := by rw [zrw_off (by omega), zrw_off (by omega)]
          have c15 : zrw (zrw T 15 (n0 + 1) hR) 14 2100 hQ 15 = zrw T 15 (n0 + 1) hR 15 := zrw_off (by omega)
          have w15 : vs 65536 (zrw (zrw T 15 (n0 + 1) hR) 14 2100 hQ 15) (n0 + 1) = A / 2 ^ (k + 1) % b := by rw [c15, vs_congr (g := hR) (fun y hy => zrw_in hy)]; exact eR
          have dd16 : dgs 65536 2100 (zrw (zrw T 15 (n0 + 1) hR) 14 2100 hQ ((14 : Int).toNat + 2)) := by show dgs 65536 2100 (zrw (zrw T 15 (n0 + 1) hR) 14 2100 hQ 16); rw [c14]; exact d16
          have dd15 : dgs 65536 2100 (zrw (zrw T 15 (n0 + 1) hR) 14 2100 hQ ((13 : Int).toNat + 2)) := by show dgs 65536 2100 (zrw (zrw T 15 (n0 + 1) hR) 14 2100 hQ 15); rw [c15]; exact dgs_zrw d15z dR
          have hfit : vs 65536 (zrw (zrw T 15 (n0 + 1) hR) 14 2100 hQ ((13 : Int).toNat + 2)) ((n0 : Int) + 1).toNat * ((2 ^ 1 : Nat) : Int) + A / 2 ^ k % 2 < 65536 ^ ((n0 : Int) + 1).toNat := by
            rw [e5, e13, w15, hpn]
            show _ * 2 + _ < _
            omega
          have key : ∀ (f hQ2 : Nat → Int), dgs 65536 (n0 + 1) f → dgs 65536 2100 hQ2 → vs 65536 f (n0 + 1) = A / 2 ^ k % b → vs 65536 hQ2 2100 = A / 2 ^ k / b * 2 ^ k → J (zrw (zrw T 15 (n0 + 1) f) 14 2100 hQ2) 0 200 [(0, .ref (a 0)), (1, .int (iZ q)), (2, .int (iZ t)), (5, .int (iZ ((n0 : Int) + 1))), (6, .int (iZ (k : Int)))] [] := by
            intro f hQ2 df dQ2 ef eQ2
            refine j_iinc hJ (by decide) dX1_divide_200 rfl ?_
            refine j_goto (tgt := 125) hJ (by decide) dX1_divide_203 ?_
            exact j_re hJ (ih f hQ2 (by omega) df dQ2 ef eQ2) ⟨rfl, rfl, rfl, rfl, rfl, trivial⟩
          refine j_iload hJ dX1_divide_125 rfl ?_
          refine j_if_lt (tgt := 206) hJ (by decide) ⟨by omega, by omega⟩ dX1_divide_127 (fun h127 => ?_) (fun h127 => ?_)
          · omega
          · refine j_aload_n hJ dX1_divide_130 rfl ?_
            refine j_bipush hJ (by decide) dX1_divide_131 ?_
            refine j_iconst hJ dX1_divide_133 ?_
            refine j_aload_n hJ dX1_divide_134 rfl ?_
            refine j_bipush hJ (by decide) dX1_divide_135 ?_
            refine j_iload hJ dX1_divide_137 rfl ?_
            refine j_callV hJ (kX1_bit l D cI a _ 14 k ⟨by omega, by omega⟩ (by omega) dd16) rfl gX1_divide_X1_bit rfl hdX1_bit rfl ⟨Nat.le_of_ble_eq_true rfl, Nat.le_of_ble_eq_true rfl⟩ (Nat.le_of_ble_eq_true rfl) (Nat.le_of_ble_eq_true rfl) rfl rfl dX1_divide_139 (fun _ _ h => False.elim h) (fun r139 Z139 hp139 => ?_)
            obtain ⟨rfl, rfl⟩ := hp139
            rw [show (14 : Int).toNat + 2 = 16 from rfl, c14, v16]
            refine j_iload hJ dX1_divide_142 rfl ?_
            refine j_callV hJ (kX1_shift l D cI a _ 13 1 (A / 2 ^ k % 2) ((n0 : Int) + 1) ⟨by omega, by omega⟩ (Or.inl rfl) ⟨r3.1, r3.2⟩ ⟨by omega, by omega⟩ dd15 hfit) rfl gX1_divide_X1_shift rfl hdX1_shift rfl ⟨Nat.le_of_ble_eq_true rfl, Nat.le_of_ble_eq_true rfl⟩ (Nat.le_of_ble_eq_true rfl) (Nat.le_of_ble_eq_true rfl) rfl rfl dX1_divide_144 (fun _ _ h => False.elim h) (fun r144 Z144 hp144 => ?_)
            obtain ⟨rfl, f, rfl, hf, hv⟩ := hp144
            rw [e5, e13] at hv
            rw [e5] at hf
            rw [w15] at hv
            rw [e5, e13, zrw_comm (j := 14) (j2 := 15) (by decide), zrw_zrw (Nat.le_refl _)]
            have hv2 : vs 65536 f (n0 + 1) = A / 2 ^ (k + 1) % b * 2 + A / 2 ^ k % 2 := hv
            have x15 : zrw (zrw T 15 (n0 + 1) f) 14 2100 hQ 15 = zrw T 15 (n0 + 1) f 15 := zrw_off (by omega)
            have x17 : zrw (zrw T 15 (n0 + 1) f) 14 2100 hQ 17 = T 17 := by rw [zrw_off (by omega), zrw_off (by omega)]
            have y15 : vs 65536 (zrw (zrw T 15 (n0 + 1) f) 14 2100 hQ 15) (n0 + 1) = A / 2 ^ (k + 1) % b * 2 + A / 2 ^ k % 2 := by rw [x15, vs_congr (g := f) (fun y hy => zrw_in hy)]; exact hv2
            have z15 : dgs 65536 2100 (zrw (zrw T 15 (n0 + 1) f) 14 2100 hQ ((13 : Int).toNat + 2)) := by show dgs 65536 2100 (zrw (zrw T 15 (n0 + 1) f) 14 2100 hQ 15); rw [x15]; exact dgs_zrw d15z hf
            have z17 : dgs 65536 2100 (zrw (zrw T 15 (n0 + 1) f) 14 2100 hQ ((15 : Int).toNat + 2)) := by show dgs 65536 2100 (zrw (zrw T 15 (n0 + 1) f) 14 2100 hQ 17); rw [x17]; exact d17
            refine j_aload_n hJ dX1_divide_147 rfl ?_
            refine j_bipush hJ (by decide) dX1_divide_148 ?_
            refine j_bipush hJ (by decide) dX1_divide_150 ?_
            refine j_iload hJ dX1_divide_152 rfl ?_
            refine j_callV hJ (kX1_isBelow l D cI a _ 13 15 ((n0 : Int) + 1) ⟨by omega, by omega⟩ ⟨by omega, by omega⟩ ⟨by omega, by omega⟩ z15 z17) rfl gX1_divide_X1_isBelow rfl hdX1_isBelow rfl ⟨Nat.le_of_ble_eq_true rfl, Nat.le_of_ble_eq_true rfl⟩ (Nat.le_of_ble_eq_true rfl) (Nat.le_of_ble_eq_true rfl) rfl rfl dX1_divide_154 (fun _ _ h => False.elim h) (fun r154 Z154 hp154 => ?_)
            obtain ⟨rfl, rfl⟩ := hp154
            rw [e5, e13, e15, y15, x17, hb17]
            have hx := ite01 (A / 2 ^ (k + 1) % b * 2 + A / 2 ^ k % 2 < b)
            generalize (if A / 2 ^ (k + 1) % b * 2 + A / 2 ^ k % 2 < b then (1 : Int) else 0) = x at hx ⊢
            refine j_if_ne (tgt := 200) hJ (by decide) ⟨by omega, by omega⟩ dX1_divide_157 (fun h157 => ?_) (fun h157 => ?_)
            · first | (have st1 := st.1 (by omega); exact j_re hJ (key f hQ hf dQ (by rw [hv2, st1.1]) (by rw [eQ, st1.2])) ⟨rfl, rfl, rfl, rfl, rfl, trivial⟩) | (have st2 := st.2 (by omega); exact j_re hJ (key f4 _ hf4 (dgs_upd dQ ⟨f2, f3⟩) (by rw [hv4, st2.1]) (by rw [vs_upd _ hq1, eQ, st2.2, pk]; grind)) ⟨rfl, rfl, rfl, rfl, rfl, trivial⟩)
            · refine j_aload_n hJ dX1_divide_160 rfl ?_
              refine j_bipush hJ (by decide) dX1_divide_161 ?_
              refine j_bipush hJ (by decide) dX1_divide_163 ?_
              refine j_iload hJ dX1_divide_165 rfl ?_
              refine j_callV hJ (kX1_lessBy l D cI a _ 13 15 ((n0 : Int) + 1) ⟨by omega, by omega⟩ ⟨by omega, by omega⟩ ⟨by omega, by omega⟩ (by omega) z15 z17 (by rw [e5, e13, e15, y15, x17, hb17]; omega)) rfl gX1_divide_X1_lessBy rfl hdX1_lessBy rfl ⟨Nat.le_of_ble_eq_true rfl, Nat.le_of_ble_eq_true rfl⟩ (Nat.le_of_ble_eq_true rfl) (Nat.le_of_ble_eq_true rfl) rfl rfl dX1_divide_167 (fun _ _ h => False.elim h) (fun r167 Z167 hp167 => ?_)
              obtain ⟨rfl, f4, rfl, hf4, hv4⟩ := hp167
              rw [e5, e13, e15, y15, x17, hb17] at hv4
              rw [e5] at hf4
              rw [e5, e13, zrw_comm (j := 14) (j2 := 15) (by decide), zrw_zrw (Nat.le_refl _)]
              refine j_aload_n hJ dX1_divide_170 rfl ?_
              refine j_bipush hJ (by decide) dX1_divide_171 ?_
              refine j_iload hJ dX1_divide_173 rfl ?_
              refine j_bipush hJ (by decide) dX1_divide_175 ?_
              refine j_idiv hJ (by omega) ⟨by omega, by omega⟩ ⟨by omega, by omega⟩ (by omega) dX1_divide_177 ?_
              refine j_aload_n hJ dX1_divide_178 rfl ?_
              refine j_bipush hJ (by decide) dX1_divide_179 ?_
              refine j_iload hJ dX1_divide_181 rfl ?_
              refine j_bipush hJ (by decide) dX1_divide_183 ?_
              refine j_idiv hJ (by omega) ⟨by omega, by omega⟩ ⟨by omega, by omega⟩ (by omega) dX1_divide_185 ?_
              refine j_callV hJ (kX1_get l D cI a _ 12 _ ⟨by omega, by omega⟩ ⟨by omega, by omega⟩) rfl gX1_divide_X1_get rfl hdX1_get rfl ⟨Nat.le_of_ble_eq_true rfl, Nat.le_of_ble_eq_true rfl⟩ (Nat.le_of_ble_eq_true rfl) (Nat.le_of_ble_eq_true rfl) rfl rfl dX1_divide_186 (fun _ _ h => False.elim h) (fun r186 Z186 hp186 => ?_)
              obtain ⟨rfl, rfl⟩ := hp186
              rw [show (12 : Int).toNat + 2 = 14 from rfl, show ((k : Int) / 16).toNat = k / 16 by omega, zrw_in hq1]
              refine j_iconst hJ dX1_divide_189 ?_
              refine j_iload hJ dX1_divide_190 rfl ?_
              refine j_bipush hJ (by decide) dX1_divide_192 ?_
              refine j_irem hJ (by omega) ⟨by omega, by omega⟩ ⟨by omega, by omega⟩ (by omega) dX1_divide_194 ?_
              rw [show (k : Int) % 16 = ((k % 16 : Nat) : Int) by omega]
              refine j_ishl (n := k % 16) hJ (by omega) dX1_divide_195 ?_
              rw [f1, Int.one_mul]
              refine j_ior hJ (iZ_or (n := k % 16 + 1) (by omega) ⟨Int.natCast_nonneg _, by rw [Nat.pow_succ]; have := Nat.two_pow_pos (k % 16); omega⟩) dX1_divide_196 ?_
              rw [← f1]
              refine j_callV hJ (kX1_put l D cI a _ 12 _ _ ⟨by omega, by omega⟩ ⟨by omega, by omega⟩) rfl gX1_divide_X1_put rfl hdX1_put rfl ⟨Nat.le_of_ble_eq_true rfl, Nat.le_of_ble_eq_true rfl⟩ (Nat.le_of_ble_eq_true rfl) (Nat.le_of_ble_eq_true rfl) rfl rfl dX1_divide_197 (fun _ _ h => False.elim h) (fun r197 Z197 hp197 => ?_)
              obtain ⟨rfl, rfl⟩ := hp197
              rw [show (12 : Int).toNat + 2 = 14 from rfl, show ((k : Int) / 16).toNat = k / 16 by omega, zrw_upd hq1]
              first | (have st1 := st.1 (by omega); exact j_re hJ (key f hQ hf dQ (by rw [hv2, st1.1]) (by rw [eQ, st1.2])) ⟨rfl, rfl, rfl, rfl, rfl, trivial⟩) | (have st2 := st.2 (by omega); exact j_re hJ (key f4 _ hf4 (dgs_upd dQ ⟨f2, f3⟩) (by rw [hv4, st2.1]) (by rw [vs_upd _ hq1, eQ, st2.2, pk]; grind)) ⟨rfl, rfl, rfl, rfl, rfl, trivial⟩)
      have d17' : dgs 65536 2100 (T ((15 : Int).toNat + 2)) := d17
      have d16' : dgs 65536 2100 (T ((14 : Int).toNat + 2)) := d16
      refine j_aload_n hJ dX1_divide_105 rfl ?_
      refine j_bipush hJ (by decide) dX1_divide_106 ?_
      refine j_callV hJ (kX1_length l D cI a T 15 ⟨by omega, by omega⟩ d17') rfl gX1_divide_X1_length rfl hdX1_length rfl ⟨Nat.le_of_ble_eq_true rfl, Nat.le_of_ble_eq_true rfl⟩ (Nat.le_of_ble_eq_true rfl) (Nat.le_of_ble_eq_true rfl) rfl rfl dX1_divide_108 (fun _ _ h => False.elim h) (fun r108 Z108 hp108 => ?_)
      obtain ⟨rfl, rfl⟩ := hp108
      rw [e15, hN]
      refine j_iconst hJ dX1_divide_111 ?_
      refine j_iadd hJ dX1_divide_112 ?_
      refine j_istore hJ (by decide) dX1_divide_113 ?_
      refine j_aload_n hJ dX1_divide_115 rfl ?_
      refine j_bipush hJ (by decide) dX1_divide_116 ?_
      refine j_callV hJ (kX1_bitsOf l D cI a T 14 ⟨by omega, by omega⟩ d16') rfl gX1_divide_X1_bitsOf rfl hdX1_bitsOf rfl ⟨Nat.le_of_ble_eq_true rfl, Nat.le_of_ble_eq_true rfl⟩ (Nat.le_of_ble_eq_true rfl) (Nat.le_of_ble_eq_true rfl) rfl rfl dX1_divide_118 (fun _ _ h => False.elim h) (fun r118 Z118 hp118 => ?_)
      obtain ⟨⟨zb, rfl, hzb, hzb2⟩, rfl⟩ := hp118
      rw [show (14 : Int).toNat + 2 = 16 from rfl, v16] at hzb
      refine j_iconst hJ dX1_divide_121 ?_
      refine j_isub hJ dX1_divide_122 ?_
      refine j_istore hJ (by decide) dX1_divide_123 ?_
      have hA2 : A / 2 ^ zb = 0 := Int.ediv_eq_zero_of_lt hA0 hzb.1
      have h9 := loop zb (fun _ => 0) (fun _ => 0) hzb2 (fun _ _ => ⟨by show (0 : Int) ≤ 0; decide, by show (0 : Int) < 65536; decide⟩) (fun _ _ => ⟨by show (0 : Int) ≤ 0; decide, by show (0 : Int) < 65536; decide⟩) (by rw [hA2, Int.zero_emod]; exact vs_zero (fun _ _ => rfl)) (by rw [hA2, Int.zero_ediv, Int.zero_mul]; exact vs_zero (fun _ _ => rfl))
      rw [zrw_id (fun y hy => (t15 y (by omega)).symm), zrw_id (fun y hy => (t14 y hy).symm)] at h9
      exact j_re hJ h9 ⟨rfl, rfl, rfl, rfl, rfl, trivial⟩
    refine j_aload_n hJ dX1_divide_78 rfl ?_
    refine j_bipush hJ (by decide) dX1_divide_79 ?_
    refine j_iload_n hJ dX1_divide_81 rfl ?_
    refine j_callV hJ (kX1_move l D cI a _ _ _ ⟨by omega, by omega⟩ ⟨by omega, by omega⟩) rfl gX1_divide_X1_move rfl hdX1_move rfl ⟨Nat.le_of_ble_eq_true rfl, Nat.le_of_ble_eq_true rfl⟩ (Nat.le_of_ble_eq_true rfl) (Nat.le_of_ble_eq_true rfl) rfl rfl dX1_divide_82 (fun _ _ h => False.elim h) (fun r82 Z82 hp82 => ?_)
    obtain ⟨rfl, rfl⟩ := hp82
    refine j_aload_n hJ dX1_divide_85 rfl ?_
    refine j_bipush hJ (by decide) dX1_divide_86 ?_
    refine j_iload hJ dX1_divide_88 rfl ?_
    refine j_callV hJ (kX1_move l D cI a _ _ _ ⟨by omega, by omega⟩ ⟨by omega, by omega⟩) rfl gX1_divide_X1_move rfl hdX1_move rfl ⟨Nat.le_of_ble_eq_true rfl, Nat.le_of_ble_eq_true rfl⟩ (Nat.le_of_ble_eq_true rfl) (Nat.le_of_ble_eq_true rfl) rfl rfl dX1_divide_90 (fun _ _ h => False.elim h) (fun r90 Z90 hp90 => ?_)
    obtain ⟨rfl, rfl⟩ := hp90
    refine j_aload_n hJ dX1_divide_93 rfl ?_
    refine j_bipush hJ (by decide) dX1_divide_94 ?_
    refine j_callV hJ (kX1_clear l D cI a _ _ ⟨by omega, by omega⟩) rfl gX1_divide_X1_clear rfl hdX1_clear rfl ⟨Nat.le_of_ble_eq_true rfl, Nat.le_of_ble_eq_true rfl⟩ (Nat.le_of_ble_eq_true rfl) (Nat.le_of_ble_eq_true rfl) rfl rfl dX1_divide_96 (fun _ _ h => False.elim h) (fun r96 Z96 hp96 => ?_)
    obtain ⟨rfl, rfl⟩ := hp96
    refine j_aload_n hJ dX1_divide_99 rfl ?_
    refine j_bipush hJ (by decide) dX1_divide_100 ?_
    refine j_callV hJ (kX1_clear l D cI a _ _ ⟨by omega, by omega⟩) rfl gX1_divide_X1_clear rfl hdX1_clear rfl ⟨Nat.le_of_ble_eq_true rfl, Nat.le_of_ble_eq_true rfl⟩ (Nat.le_of_ble_eq_true rfl) (Nat.le_of_ble_eq_true rfl) rfl rfl dX1_divide_102 (fun _ _ h => False.elim h) (fun r102 Z102 hp102 => ?_)
    obtain ⟨rfl, rfl⟩ := hp102
    exact hYT _ rfl
  refine j_aload_n hJ dX1_divide_0 rfl ?_
  refine j_iload_n hJ dX1_divide_1 rfl ?_
  refine j_callS hJ (kX1_isRegister l D _ ⟨by omega, by omega⟩) rfl gX1_divide_X1_isRegister rfl hsX1_isRegister rfl ⟨Nat.le_of_ble_eq_true rfl, Nat.le_of_ble_eq_true rfl⟩ (Nat.le_of_ble_eq_true rfl) (Nat.le_of_ble_eq_true rfl) dX1_divide_2 (fun _ h => False.elim h) (fun r2 hp2 => ?_)
  subst hp2
  refine j_if_eq (tgt := 34) hJ (by decide) ⟨by omega, by omega⟩ dX1_divide_5 (fun h5 => ?_) (fun h5 => ?_)
  · rw [if_neg (by omega)] at hJ
    refine j_iconst hJ dX1_divide_34 ?_
    refine m_putcode hJ hin (by decide +kernel) dX1_divide_35 ?_
    refine j_aload_n hJ dX1_divide_38 rfl ?_
    refine m_code hJ hin (by decide +kernel) dX1_divide_39 ?_
    rw [zup_eq]
    refine j_if_le (tgt := 46) hJ (by decide) ⟨by omega, by omega⟩ dX1_divide_42 (fun h42 => absurd h42 (by decide)) (fun h42 => ?_)
    exact j_vret hJ (Nat.le_of_ble_eq_true rfl) (⟨rfl, zup_eq _ _ _ _, hI.code 1⟩) dX1_divide_45
  · refine j_iload_n hJ dX1_divide_8 rfl ?_
    refine j_callS hJ (kX1_isRegister l D _ ⟨by omega, by omega⟩) rfl gX1_divide_X1_isRegister rfl hsX1_isRegister rfl ⟨Nat.le_of_ble_eq_true rfl, Nat.le_of_ble_eq_true rfl⟩ (Nat.le_of_ble_eq_true rfl) (Nat.le_of_ble_eq_true rfl) dX1_divide_9 (fun _ h => False.elim h) (fun r9 hp9 => ?_)
    subst hp9
    refine j_if_eq (tgt := 34) hJ (by decide) ⟨by omega, by omega⟩ dX1_divide_12 (fun h12 => ?_) (fun h12 => ?_)
    · rw [if_neg (by omega)] at hJ
      refine j_iconst hJ dX1_divide_34 ?_
      refine m_putcode hJ hin (by decide +kernel) dX1_divide_35 ?_
      refine j_aload_n hJ dX1_divide_38 rfl ?_
      refine m_code hJ hin (by decide +kernel) dX1_divide_39 ?_
      rw [zup_eq]
      refine j_if_le (tgt := 46) hJ (by decide) ⟨by omega, by omega⟩ dX1_divide_42 (fun h42 => absurd h42 (by decide)) (fun h42 => ?_)
      exact j_vret hJ (Nat.le_of_ble_eq_true rfl) (⟨rfl, zup_eq _ _ _ _, hI.code 1⟩) dX1_divide_45
    · refine j_iload_n hJ dX1_divide_15 rfl ?_
      refine j_callS hJ (kX1_isRegister l D _ ⟨by omega, by omega⟩) rfl gX1_divide_X1_isRegister rfl hsX1_isRegister rfl ⟨Nat.le_of_ble_eq_true rfl, Nat.le_of_ble_eq_true rfl⟩ (Nat.le_of_ble_eq_true rfl) (Nat.le_of_ble_eq_true rfl) dX1_divide_16 (fun _ h => False.elim h) (fun r16 hp16 => ?_)
      subst hp16
      refine j_if_eq (tgt := 34) hJ (by decide) ⟨by omega, by omega⟩ dX1_divide_19 (fun h19 => ?_) (fun h19 => ?_)
      · rw [if_neg (by omega)] at hJ
        refine j_iconst hJ dX1_divide_34 ?_
        refine m_putcode hJ hin (by decide +kernel) dX1_divide_35 ?_
        refine j_aload_n hJ dX1_divide_38 rfl ?_
        refine m_code hJ hin (by decide +kernel) dX1_divide_39 ?_
        rw [zup_eq]
        refine j_if_le (tgt := 46) hJ (by decide) ⟨by omega, by omega⟩ dX1_divide_42 (fun h42 => absurd h42 (by decide)) (fun h42 => ?_)
        exact j_vret hJ (Nat.le_of_ble_eq_true rfl) (⟨rfl, zup_eq _ _ _ _, hI.code 1⟩) dX1_divide_45
      · refine j_iload hJ dX1_divide_22 rfl ?_
        refine j_callS hJ (kX1_isRegister l D _ ⟨by omega, by omega⟩) rfl gX1_divide_X1_isRegister rfl hsX1_isRegister rfl ⟨Nat.le_of_ble_eq_true rfl, Nat.le_of_ble_eq_true rfl⟩ (Nat.le_of_ble_eq_true rfl) (Nat.le_of_ble_eq_true rfl) dX1_divide_24 (fun _ h => False.elim h) (fun r24 hp24 => ?_)
        subst hp24
        refine j_if_eq (tgt := 34) hJ (by decide) ⟨by omega, by omega⟩ dX1_divide_27 (fun h27 => ?_) (fun h27 => ?_)
        · rw [if_neg (by omega)] at hJ
          refine j_iconst hJ dX1_divide_34 ?_
          refine m_putcode hJ hin (by decide +kernel) dX1_divide_35 ?_
          refine j_aload_n hJ dX1_divide_38 rfl ?_
          refine m_code hJ hin (by decide +kernel) dX1_divide_39 ?_
          rw [zup_eq]
          refine j_if_le (tgt := 46) hJ (by decide) ⟨by omega, by omega⟩ dX1_divide_42 (fun h42 => absurd h42 (by decide)) (fun h42 => ?_)
          exact j_vret hJ (Nat.le_of_ble_eq_true rfl) (⟨rfl, zup_eq _ _ _ _, hI.code 1⟩) dX1_divide_45
        · rw [if_pos ⟨⟨by omega, by omega⟩, ⟨by omega, by omega⟩, ⟨by omega, by omega⟩, ⟨by omega, by omega⟩⟩] at hJ
          have sj := (hI.2 j.toNat (by omega)).2.1
          have scj := sg_cases (g j.toNat)
          refine j_iconst hJ dX1_divide_30 ?_
          refine j_goto (tgt := 35) hJ (by decide) dX1_divide_31 ?_
          refine m_putcode hJ hin (by decide +kernel) dX1_divide_35 ?_
          refine j_aload_n hJ dX1_divide_38 rfl ?_
          refine m_code hJ hin (by decide +kernel) dX1_divide_39 ?_
          rw [zup_eq]
          refine j_if_le (tgt := 46) hJ (by decide) ⟨by omega, by omega⟩ dX1_divide_42 (fun h42 => ?_) (fun h42 => absurd h42 (by decide))
          refine j_aload_n hJ dX1_divide_46 rfl ?_
          refine j_iload_n hJ dX1_divide_47 rfl ?_
          refine j_iload_n hJ dX1_divide_48 rfl ?_
          refine j_icmp_eq (tgt := 62) hJ (by decide) ⟨by omega, by omega⟩ ⟨by omega, by omega⟩ dX1_divide_49 (fun h49 => ?_) (fun h49 => ?_)
          · rw [if_pos (by omega)] at hJ
            refine j_iconst hJ dX1_divide_62 ?_
            refine j_goto (tgt := 67) hJ (by decide) dX1_divide_63 ?_
            refine m_putcode hJ hin (by decide +kernel) dX1_divide_67 ?_
            refine j_aload_n hJ dX1_divide_70 rfl ?_
            refine m_code hJ hin (by decide +kernel) dX1_divide_71 ?_
            rw [zup_eq]
            refine j_if_le (tgt := 78) hJ (by decide) ⟨by omega, by omega⟩ dX1_divide_74 (fun h74 => absurd h74 (by decide)) (fun h74 => ?_)
            exact j_vret hJ (Nat.le_of_ble_eq_true rfl) (⟨rfl, zup_eq _ _ _ _, (hI.code 0).code 2⟩) dX1_divide_77
          · refine j_aload_n hJ dX1_divide_52 rfl ?_
            refine m_sign hJ hin (by decide +kernel) dX1_divide_53 ?_
            refine j_iload hJ dX1_divide_56 rfl ?_
            refine m_ald_sg hJ ⟨by omega, by omega⟩ dX1_divide_58 ?_
            rw [zup_off _ 0 _ _ (by omega), sj]
            refine j_if_ne (tgt := 66) hJ (by decide) ⟨by omega, by omega⟩ dX1_divide_59 (fun h59 => ?_) (fun h59 => ?_)
            · rw [if_neg (by omega)] at hJ
              refine j_iconst hJ dX1_divide_66 ?_
              refine m_putcode hJ hin (by decide +kernel) dX1_divide_67 ?_
              refine j_aload_n hJ dX1_divide_70 rfl ?_
              refine m_code hJ hin (by decide +kernel) dX1_divide_71 ?_
              rw [zup_eq]
              refine j_if_le (tgt := 78) hJ (by decide) ⟨by omega, by omega⟩ dX1_divide_74 (fun h74 => ?_) (fun h74 => absurd h74 (by decide))
              exact j_re hJ (main ⟨by omega, by omega⟩ ⟨by omega, by omega⟩ ⟨by omega, by omega⟩ ⟨by omega, by omega⟩ (by omega) (by omega) hJ) ⟨rfl, rfl, rfl, rfl, rfl, trivial⟩
            · rw [if_pos (by omega)] at hJ
              refine j_iconst hJ dX1_divide_62 ?_
              refine j_goto (tgt := 67) hJ (by decide) dX1_divide_63 ?_
              refine m_putcode hJ hin (by decide +kernel) dX1_divide_67 ?_
              refine j_aload_n hJ dX1_divide_70 rfl ?_
              refine m_code hJ hin (by decide +kernel) dX1_divide_71 ?_
              rw [zup_eq]
              refine j_if_le (tgt := 78) hJ (by decide) ⟨by omega, by omega⟩ dX1_divide_74 (fun h74 => absurd h74 (by decide)) (fun h74 => ?_)
              exact j_vret hJ (Nat.le_of_ble_eq_true rfl) (⟨rfl, zup_eq _ _ _ _, (hI.code 0).code 2⟩) dX1_divide_77
end M11
