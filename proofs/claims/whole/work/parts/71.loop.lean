section LawC
variable {l : Launch} {D : va_G} {cI cO cL : ClassId} {J : JT va_W} {b L : Nat} {xs : Nat → Int32} {a a2 : Nat → Nat} {Z Z2 : ZZ} {o : Nat} {f : Nat → Int64} {k i : Nat} {g : Nat → Int}
set_option maxRecDepth 20000 in
theorem law_step (hJ : IsG l D (tL cI cO cL) cL_law 7 wsL_law RL room_1 (XL b L xs) J) (hl0 : l.stackTraces = false) (hI : XI Z g) (hM : MI Z2 g) (hi0 : i ≤ 3000) (hL : L ≤ 2560) (hk : k + 8 ≤ 601024)
    (nx : i + 5 ≤ L → ∀ (g' : Nat → Int) (Z' : ZZ) (f' : Nat → Int64) (Z2' : ZZ), XI Z' g' → MI Z2' g' → J ((wX cI cO a Z' ++ wO cL o f') ++ wM cI a2 Z2') (k + 8) 1008 [(0, .ref b), (1, .ref (a 0)), (2, .ref (a2 0)), (3, .ref o), (4, .int (iZ (i : Int)))] []) : J ((wX cI cO a Z ++ wO cL o f) ++ wM cI a2 Z2) k 23 [(0, .ref b), (1, .ref (a 0)), (2, .ref (a2 0)), (3, .ref o), (4, .int (iZ (i : Int)))] [] := by
  refine g_iload hJ dL_law_23 rfl ?_
  refine g_aload_n hJ dL_law_25 rfl ?_
  refine g_slen hJ dL_law_26 ?_
  refine g_iconst hJ dL_law_27 ?_
  refine g_isub hJ dL_law_28 ?_
  refine g_icmp_gt (tgt := 1014) hJ (by decide) ⟨by omega, by omega⟩ ⟨by omega, by omega⟩ dL_law_29 (fun hgt => ?_) (fun hle => ?_)
  · refine g_iconst hJ dL_law_1014 ?_
    exact l_end hJ (by omega) dL_law_1015
  have hi : i + 5 ≤ L := by omega
  have nx1 := nx hi
  refine g_aload_n hJ dL_law_32 rfl ?_
  refine g_iload hJ dL_law_33 rfl ?_
  refine g_sld (n := i) hJ rfl (by omega) hL dL_law_35 ?_
  refine g_bipush hJ (by decide) dL_law_36 ?_
  refine g_iand hJ (iZ_low4 _) dL_law_38 ?_
  generalize (xs i).toInt = v
  have hz1 : 0 ≤ v % 16 := by omega
  have hz2 : v % 16 < 16 := by omega
  generalize v % 16 = z at hz1 hz2 ⊢
  have hz : i32 z := ⟨by omega, by omega⟩
  have hcs : z = 0 ∨ z = 1 ∨ z = 2 ∨ z = 3 ∨ z = 4 ∨ z = 5 ∨ z = 6 ∨ z = 7 ∨ z = 8 ∨ z = 9 ∨ z = 10 ∨ z = 11 ∨ z = 12 ∨ z = 13 ∨ z = 14 ∨ z = 15 := by omega
  rcases hcs with rfl | rfl | rfl | rfl | rfl | rfl | rfl | rfl | rfl | rfl | rfl | rfl | rfl | rfl | rfl | rfl
  · exact g_tabIn (tgt := 112) (j := 0) hJ hz (by decide) (by decide) (by decide) (by rfl) (by decide) dL_law_39 (law_set hJ hl0 hI hM hi hL hk nx1)
  · exact g_tabIn (tgt := 192) (j := 1) hJ hz (by decide) (by decide) (by decide) (by rfl) (by decide) dL_law_39 (law_append hJ hl0 hI hM hi hL hk nx1)
  · exact g_tabIn (tgt := 240) (j := 2) hJ hz (by decide) (by decide) (by decide) (by rfl) (by decide) dL_law_39 (law_negate hJ hl0 hI hM hi hL hk nx1)
  · exact g_tabIn (tgt := 276) (j := 3) hJ hz (by decide) (by decide) (by decide) (by rfl) (by decide) dL_law_39 (law_copy hJ hl0 hI hM hi hL hk nx1)
  · exact g_tabIn (tgt := 324) (j := 4) hJ hz (by decide) (by decide) (by decide) (by rfl) (by decide) dL_law_39 (law_add hJ hl0 hI hM hi hL hk nx1)
  · exact g_tabIn (tgt := 384) (j := 5) hJ hz (by decide) (by decide) (by decide) (by rfl) (by decide) dL_law_39 (law_subtract hJ hl0 hI hM hi hL hk nx1)
  · exact g_tabIn (tgt := 444) (j := 6) hJ hz (by decide) (by decide) (by decide) (by rfl) (by decide) dL_law_39 (law_multiply hJ hl0 hI hM hi hL hk nx1)
  · exact g_tabIn (tgt := 504) (j := 7) hJ hz (by decide) (by decide) (by decide) (by rfl) (by decide) dL_law_39 (law_divide hJ hl0 hI hM hi hL hk nx1)
  · exact g_tabIn (tgt := 576) (j := 8) hJ hz (by decide) (by decide) (by decide) (by rfl) (by decide) dL_law_39 (law_root hJ hl0 hI hM hi hL hk nx1)
  · exact g_tabIn (tgt := 624) (j := 9) hJ hz (by decide) (by decide) (by decide) (by rfl) (by decide) dL_law_39 (law_compare hJ hl0 hI hM hi hL hk nx1)
  · exact g_tabIn (tgt := 692) (j := 10) hJ hz (by decide) (by decide) (by decide) (by rfl) (by decide) dL_law_39 (law_compareSizes hJ hl0 hI hM hi hL hk nx1)
  · exact g_tabIn (tgt := 760) (j := 11) hJ hz (by decide) (by decide) (by decide) (by rfl) (by decide) dL_law_39 (law_sign hJ hl0 hI hM hi hL hk nx1)
  · exact g_tabIn (tgt := 816) (j := 12) hJ hz (by decide) (by decide) (by decide) (by rfl) (by decide) dL_law_39 (law_bits hJ hl0 hI hM hi hL hk nx1)
  · exact g_tabIn (tgt := 872) (j := 13) hJ hz (by decide) (by decide) (by decide) (by rfl) (by decide) dL_law_39 (law_word hJ hl0 hI hM hi hL hk nx1)
  · exact g_tabIn (tgt := 940) (j := 14) hJ hz (by decide) (by decide) (by decide) (by rfl) (by decide) dL_law_39 (law_residue hJ hl0 hI hM hi hL hk nx1)
  · exact g_tabOut (tgt := 1008) hJ hz (Or.inr (by decide)) (by decide) dL_law_39 (g_wide hJ (by omega) (nx1 g Z f Z2 hI hM))
theorem law_loop (hJ : IsG l D (tL cI cO cL) cL_law 7 wsL_law RL room_1 (XL b L xs) J) (hl0 : l.stackTraces = false) (hL : L ≤ 2560) : ∀ (n i k : Nat) (Z Z2 : ZZ) (f : Nat → Int64) (g : Nat → Int), XI Z g → MI Z2 g → L ≤ i + 5 * n → i ≤ 3000 → k + 8 * (n + 1) ≤ 601024 → J ((wX cI cO a Z ++ wO cL o f) ++ wM cI a2 Z2) k 23 [(0, .ref b), (1, .ref (a 0)), (2, .ref (a2 0)), (3, .ref o), (4, .int (iZ (i : Int)))] [] := by
  intro n
  induction n with
  | zero =>
    intro i k Z Z2 f g hI hM h1 h2 h3
    exact law_step hJ hl0 hI hM h2 hL (by omega) (fun h => absurd h (by omega))
  | succ n ih =>
    intro i k Z Z2 f g hI hM h1 h2 h3
    refine law_step hJ hl0 hI hM h2 hL (by omega) (fun h g' Z' f' Z2' hI' hM' => ?_)
    refine g_iinc (i := 4) hJ (by decide) dL_law_1008 rfl ?_
    refine g_goto (tgt := 23) hJ (by decide) dL_law_1011 ?_
    exact g_re hJ (ih (i + 5) (k + 8) Z' Z2' f' g' hI' hM' (by omega) (by omega) (by omega)) ⟨rfl, rfl, rfl, rfl, rfl, trivial⟩
set_option maxRecDepth 20000 in
theorem law_run (hJ : IsG l D (tL cI cO cL) cL_law 7 wsL_law RL room_1 (XL b L xs) J) (hl0 : l.stackTraces = false) (hL : L ≤ 2560) : J [] 0 0 [(0, .ref b)] [] := by
  have hin0 : ∀ w ∈ u_ws RX0 TX0 6, w ∈ wsL_law := inlX0
  have hin1 : ∀ w ∈ u_ws RX1 TX1 3, w ∈ wsL_law := inlX1
  refine g_new (C := RX0) (T := TX0) (N := 6) (ci := 0) (fs := [.null, .null, .null, .null, .null, .null]) hJ hin0 tyX0 tyX0_ok (by decide +kernel) (by decide +kernel) (by decide +kernel) rfl (by decide) (by decide) (Nat.le_of_ble_eq_true rfl) (Nat.le_of_ble_eq_true rfl) dL_law_0 (fun q0 => ?_)
  refine g_dup hJ rfl dL_law_3 ?_
  refine g_callI (r1 := []) (w := [(q0, .inr (0, [.null, .null, .null, .null, .null, .null]))]) (r2 := []) hJ (kX0_init l D cI cO q0) gL_law_X0_init rfl (by decide +kernel) (by decide +kernel) (by decide +kernel) rfl (by decide +kernel) ⟨Nat.le_of_ble_eq_true rfl, Nat.le_of_ble_eq_true rfl⟩ (Nat.le_of_ble_eq_true rfl) ⟨Nat.le_of_ble_eq_true rfl, Nat.le_of_ble_eq_true rfl⟩ [0, 1] rfl dL_law_4 (fun r3 w3 h3 => ?_)
  obtain ⟨rfl, a, rfl, rfl⟩ := h3
  rw [List.nil_append, List.append_nil]
  refine g_astore_n hJ (by decide) dL_law_7 ?_
  refine g_new (C := RX1) (T := TX1) (N := 3) (ci := 1) (fs := [.int (iZ 0), .null, .null]) hJ hin1 tyX1 tyX1_ok (by decide +kernel) (by decide +kernel) (by decide +kernel) rfl (by decide) (by decide) (Nat.le_of_ble_eq_true rfl) (Nat.le_of_ble_eq_true rfl) dL_law_8 (fun q1 => ?_)
  refine g_dup hJ rfl dL_law_11 ?_
  refine g_callI (r1 := wX cI cO a (fun _ _ => 0)) (w := [(q1, .inr (1, [.int (iZ 0), .null, .null]))]) (r2 := []) hJ (kX1_init l D cI q1) gL_law_X1_init rfl (by decide +kernel) (by decide +kernel) (by decide +kernel) rfl (by decide +kernel) ⟨Nat.le_of_ble_eq_true rfl, Nat.le_of_ble_eq_true rfl⟩ (Nat.le_of_ble_eq_true rfl) ⟨Nat.le_of_ble_eq_true rfl, Nat.le_of_ble_eq_true rfl⟩ [0] rfl dL_law_12 (fun r4 w4 h4 => ?_)
  obtain ⟨rfl, a2, rfl, rfl⟩ := h4
  rw [List.append_nil]
  refine g_astore_n hJ (by decide) dL_law_15 ?_
  refine g_iconst hJ dL_law_16 ?_
  refine g_newl (cL := cL) (t0 := 2) hJ rfl (by decide +kernel) (Nat.le_of_ble_eq_true rfl) (Nat.le_of_ble_eq_true rfl) dL_law_17 (fun o => ?_)
  refine g_swap hJ ?_
  refine g_astore_n hJ (by decide) dL_law_19 ?_
  refine g_iconst hJ dL_law_20 ?_
  refine g_istore hJ (by decide) dL_law_21 ?_
  exact g_re hJ (law_loop hJ hl0 hL 512 0 _ _ _ _ _ XI_0 MI_0 (by omega) (by omega) (by decide)) ⟨rfl, rfl, rfl, rfl, rfl, trivial⟩
end LawC
