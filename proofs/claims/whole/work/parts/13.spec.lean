/-! what the document says, as functions of twelve whole numbers -/
def LIM : Int := 65536 ^ 1024
theorem LIM_pos : 0 < LIM := pw_pos (by decide) 1024
theorem LIM_sum {x y : Int} (hx : x < LIM) (hy : y < LIM) : x + y < 65536 ^ 2100 := by
  have h1 : (65536 : Int) ^ 1025 ≤ 65536 ^ 2100 := pw_mono (by decide) (by decide)
  have h2 : (65536 : Int) ^ 1025 = LIM * 65536 := pw_s 65536 1024
  have := LIM_pos
  omega
abbrev isRg (r : Int) : Prop := 0 ≤ r ∧ r < 12
def gset (g : Nat → Int) (i : Nat) (v : Int) : Nat → Int := fun j => if j = i then v else g j
theorem gset_eq (g : Nat → Int) (i : Nat) (v : Int) : gset g i v i = v := if_pos rfl
theorem gset_ne {g : Nat → Int} {i j : Nat} {v : Int} (h : j ≠ i) : gset g i v j = g j := if_neg h
def lim (g : Nat → Int) (r z : Int) : Int × (Nat → Int) := if (z.natAbs : Int) < LIM then (0, gset g r.toNat z) else (2, g)
def oSet (g : Nat → Int) (r v : Int) : Int × (Nat → Int) := if isRg r then (0, gset g r.toNat v) else (1, g)
def oApp (g : Nat → Int) (r w : Int) : Int × (Nat → Int) := if isRg r then lim g r ((if g r.toNat < 0 then -1 else 1) * (((g r.toNat).natAbs : Int) * 4294967296 + w % 4294967296)) else (1, g)
def oNeg (g : Nat → Int) (r : Int) : Int × (Nat → Int) := if isRg r then (0, gset g r.toNat (- g r.toNat)) else (1, g)
def oCopy (g : Nat → Int) (r a : Int) : Int × (Nat → Int) := if isRg r ∧ isRg a then (0, gset g r.toNat (g a.toNat)) else (1, g)
def oAdd (g : Nat → Int) (r a b : Int) : Int × (Nat → Int) := if isRg r ∧ isRg a ∧ isRg b then lim g r (g a.toNat + g b.toNat) else (1, g)
def oSub (g : Nat → Int) (r a b : Int) : Int × (Nat → Int) := if isRg r ∧ isRg a ∧ isRg b then lim g r (g a.toNat - g b.toNat) else (1, g)
def oMul (g : Nat → Int) (r a b : Int) : Int × (Nat → Int) := if isRg r ∧ isRg a ∧ isRg b then lim g r (g a.toNat * g b.toNat) else (1, g)
def oDiv (g : Nat → Int) (q t a b : Int) : Int × (Nat → Int) := if isRg q ∧ isRg t ∧ isRg a ∧ isRg b then (if q = t ∨ g b.toNat = 0 then (2, g) else (0, gset (gset g q.toNat ((g a.toNat).tdiv (g b.toNat))) t.toNat ((g a.toNat).tmod (g b.toNat)))) else (1, g)
/-- the greatest number whose square isn't above x -/
noncomputable def rt (x : Int) : Int := Classical.epsilon (fun z : Int => 0 ≤ z ∧ z * z ≤ x ∧ x < (z + 1) * (z + 1))
theorem rt_unique {x z w : Int} (h1 : 0 ≤ z ∧ z * z ≤ x ∧ x < (z + 1) * (z + 1)) (h2 : 0 ≤ w ∧ w * w ≤ x ∧ x < (w + 1) * (w + 1)) : z = w := by
  have key : ∀ {z w : Int}, (0 ≤ z ∧ z * z ≤ x) → (0 ≤ w ∧ x < (w + 1) * (w + 1)) → z ≤ w := by
    intro z w p q
    rcases Int.lt_or_le w z with c | c
    · have := Int.mul_le_mul (show w + 1 ≤ z from c) (show w + 1 ≤ z from c) (by omega) (by omega)
      omega
    · exact c
  exact Int.le_antisymm (key ⟨h1.1, h1.2.1⟩ ⟨h2.1, h2.2.2⟩) (key ⟨h2.1, h2.2.1⟩ ⟨h1.1, h1.2.2⟩)
theorem rt_eq {x z : Int} (h : 0 ≤ z ∧ z * z ≤ x ∧ x < (z + 1) * (z + 1)) : rt x = z := rt_unique (Classical.epsilon_spec (p := fun z : Int => 0 ≤ z ∧ z * z ≤ x ∧ x < (z + 1) * (z + 1)) ⟨z, h⟩) h
noncomputable def oRoot (g : Nat → Int) (r a : Int) : Int × (Nat → Int) := if isRg r ∧ isRg a then (if g a.toNat < 0 then (2, g) else (0, gset g r.toNat (rt (g a.toNat)))) else (1, g)
def oCmp (g : Nat → Int) (a b : Int) : Int × Int := if isRg a ∧ isRg b then (0, cz (g a.toNat) (g b.toNat)) else (1, 0)
def oCmpS (g : Nat → Int) (a b : Int) : Int × Int := if isRg a ∧ isRg b then (0, cz ((g a.toNat).natAbs) ((g b.toNat).natAbs)) else (1, 0)
def oSign (g : Nat → Int) (a : Int) : Int × Int := if isRg a then (0, (g a.toNat).sign) else (1, 0)
noncomputable def bl (V : Int) : Nat := Classical.epsilon (fun z : Nat => nb V z)
theorem bl_eq {V : Int} {z : Nat} (h : nb V z) : bl V = z := nb_unique (Classical.epsilon_spec (p := fun z : Nat => nb V z) ⟨z, h⟩) h
noncomputable def oBits (g : Nat → Int) (a : Int) : Int × Int := if isRg a then (0, (bl ((g a.toNat).natAbs) : Int)) else (1, 0)
def oWord (g : Nat → Int) (a k : Int) : Int × Int := if isRg a ∧ 0 ≤ k ∧ k < 512 then (0, ((g a.toNat).natAbs : Int) / 4294967296 ^ k.toNat % 4294967296) else (1, 0)
def oRes (g : Nat → Int) (a m : Int) : Int × Int := if isRg a then (if m < 1 then (2, 0) else (0, g a.toNat % m)) else (1, 0)
/-! a sign and a size -/
def sgOK (s v : Int) : Prop := (s = 0 ∧ v = 0) ∨ (s = 1 ∧ 0 < v) ∨ (s = -1 ∧ 0 < v)
theorem sg_of (z : Int) : sgOK z.sign (z.natAbs : Int) := by
  rcases Int.lt_trichotomy z 0 with h | h | h
  · exact Or.inr (Or.inr ⟨Int.sign_eq_neg_one_of_neg h, by omega⟩)
  · subst h; exact Or.inl ⟨rfl, rfl⟩
  · exact Or.inr (Or.inl ⟨Int.sign_eq_one_of_pos h, by omega⟩)
theorem sg_mul (z : Int) : z.sign * (z.natAbs : Int) = z := Int.sign_mul_natAbs z
theorem sg_cases (z : Int) : (z < 0 ∧ z.sign = -1 ∧ (z.natAbs : Int) = -z) ∨ (z = 0 ∧ z.sign = 0 ∧ (z.natAbs : Int) = 0) ∨ (0 < z ∧ z.sign = 1 ∧ (z.natAbs : Int) = z) := by
  rcases Int.lt_trichotomy z 0 with h | h | h
  · exact Or.inl ⟨h, Int.sign_eq_neg_one_of_neg h, by omega⟩
  · subst h; exact Or.inr (Or.inl ⟨rfl, rfl, rfl⟩)
  · exact Or.inr (Or.inr ⟨h, Int.sign_eq_one_of_pos h, by omega⟩)
/-! the reference's state -/
def MI (Z : ZZ) (g : Nat → Int) : Prop := (∀ j, j < 16 → dgs 65536 2100 (Z (j + 2))) ∧ ∀ i, i < 12 → vs 65536 (Z (i + 2)) 2100 = ((g i).natAbs : Int) ∧ Z 1 i = (g i).sign ∧ ((g i).natAbs : Int) < LIM
theorem MI.code {Z : ZZ} {g : Nat → Int} (h : MI Z g) (c : Int) : MI (zup Z 0 0 c) g := by
  refine ⟨fun j hj => ?_, fun i hi => ?_⟩
  · rw [zup_off Z 0 0 c (j' := j + 2) (by omega)]; exact h.1 j hj
  · rw [zup_off Z 0 0 c (j' := i + 2) (by omega), zup_off Z 0 0 c (j' := 1) (by omega)]; exact h.2 i hi
theorem dgs_zrw {Z : ZZ} {j n : Nat} {f : Nat → Int} {B : Int} (h : dgs B 2100 (Z j)) (hf : dgs B n f) : dgs B 2100 (zrw Z j n f j) := by
  intro i hi
  rcases Nat.lt_or_ge i n with q | q
  · rw [zrw_in q]; exact hf i q
  · rw [zrw_ge q]; exact h i hi
/-- a row beside the registers -/
theorem MI.row {Z : ZZ} {g : Nat → Int} (h : MI Z g) {j n : Nat} {f : Nat → Int} (hj : 12 ≤ j) (hf : dgs 65536 n f) : MI (zrw Z (j + 2) n f) g := by
  refine ⟨fun i hi => ?_, fun i hi => ?_⟩
  · by_cases q : i = j
    · subst q; exact dgs_zrw (h.1 i hi) hf
    · rw [zrw_off (by omega)]; exact h.1 i hi
  · rw [zrw_off (by omega), zrw_off (by omega)]; exact h.2 i hi
theorem MI.sgn {Z : ZZ} {g : Nat → Int} (h : MI Z g) {j : Nat} (hj : 12 ≤ j) (s : Int) : MI (zup Z 1 j s) g := by
  refine ⟨fun i hi => ?_, fun i hi => ?_⟩
  · rw [zup_off Z 1 j s (j' := i + 2) (by omega)]; exact h.1 i hi
  · rw [zup_off Z 1 j s (j' := i + 2) (by omega), zup_ne (by omega)]; exact h.2 i hi
theorem MI.mov {Z : ZZ} {g : Nat → Int} (h : MI Z g) {j i : Nat} (hj : 12 ≤ j) (hi : i < 16) : MI (zup (zrw Z (j + 2) 2100 (Z (i + 2))) 1 j (Z 1 i)) g := (h.row hj (h.1 i hi)).sgn hj _
/-- a register gets a number -/
theorem MI.reg {Z : ZZ} {g : Nat → Int} (h : MI Z g) {r : Nat} (hr : r < 12) {f : Nat → Int} {z s : Int} (hf : dgs 65536 2100 f) (hv : vs 65536 f 2100 = (z.natAbs : Int)) (hs : s = z.sign) (hz : (z.natAbs : Int) < LIM) : MI (zup (zrw Z (r + 2) 2100 f) 1 r s) (gset g r z) := by
  subst hs
  refine ⟨fun i hi => ?_, fun i hi => ?_⟩
  · rw [zup_off _ 1 r _ (j' := i + 2) (by omega)]
    by_cases q : i = r
    · subst q; exact dgs_zrw (h.1 i hi) hf
    · rw [zrw_off (by omega)]; exact h.1 i hi
  · rw [zup_off _ 1 r _ (j' := i + 2) (by omega)]
    by_cases q : i = r
    · subst q
      rw [zup_eq, gset_eq, vs_congr (fun k hk => zrw_in hk)]
      exact ⟨hv, rfl, hz⟩
    · rw [zup_ne (by omega), zrw_off (by omega), zrw_off (by omega), gset_ne q]; exact h.2 i hi
theorem MI_neg {Z : ZZ} {g : Nat → Int} (h : MI Z g) {r : Nat} (hr : r < 12) : MI (zup Z 1 r (- (g r).sign)) (gset g r (- g r)) := by
  refine ⟨fun i hi => ?_, fun i hi => ?_⟩
  · rw [zup_off Z 1 r _ (j' := i + 2) (by omega)]; exact h.1 i hi
  · rw [zup_off Z 1 r _ (j' := i + 2) (by omega)]
    have hq := h.2 i hi
    by_cases q : i = r
    · subst q
      rw [zup_eq, gset_eq, Int.natAbs_neg, Int.sign_neg]
      exact ⟨hq.1, rfl, hq.2.2⟩
    · rw [zup_ne (by omega), gset_ne q]; exact hq
theorem MI.reg2 {Z Z' : ZZ} {g : Nat → Int} (h : MI Z g) {r : Nat} (hr : r < 12) {z : Int} (h1 : ∀ j, j < 16 → j ≠ r → ∀ k, k < 2100 → Z' (j + 2) k = Z (j + 2) k) (h2 : ∀ i, i < 12 → i ≠ r → Z' 1 i = Z 1 i) (hf : dgs 65536 2100 (Z' (r + 2))) (hv : vs 65536 (Z' (r + 2)) 2100 = (z.natAbs : Int)) (hs : Z' 1 r = z.sign) (hz : (z.natAbs : Int) < LIM) : MI Z' (gset g r z) := by
  refine ⟨fun i hi => ?_, fun i hi => ?_⟩
  · by_cases q : i = r
    · subst q; exact hf
    · intro k hk; rw [h1 i hi q k hk]; exact h.1 i hi k hk
  · by_cases q : i = r
    · subst q; rw [gset_eq]; exact ⟨hv, hs, hz⟩
    · rw [vs_congr (h1 i (by omega) q), h2 i hi q, gset_ne q]; exact h.2 i hi
theorem zup_fset (Z : ZZ) (j i : Nat) (v : Int) : zup Z j i v j = fset (Z j) i v := by
  funext k
  unfold zup fset
  by_cases h : k = i
  · rw [if_pos ⟨rfl, h⟩, if_pos h]
  · rw [if_neg (fun q => h q.2), if_neg h]
theorem zrw_upd {Z : ZZ} {j n i : Nat} {f : Nat → Int} {v : Int} (hi : i < n) : zup (zrw Z j n f) j i v = zrw Z j n (fset f i v) := by
  funext j' k
  unfold zup zrw fset
  by_cases h : j' = j ∧ k = i
  · rw [if_pos h, if_pos ⟨h.1, by omega⟩, if_pos h.2]
  · rw [if_neg h]
    by_cases h2 : j' = j ∧ k < n
    · rw [if_pos h2, if_pos h2, if_neg (fun q => h ⟨h2.1, q⟩)]
    · rw [if_neg h2, if_neg h2]
theorem small_LIM {z : Int} (h : z < 18446744073709551616) : z < LIM := by
  have h1 : (65536 : Int) ^ 4 ≤ 65536 ^ 1024 := pw_mono (by decide) (by decide)
  have h2 : (65536 : Int) ^ 4 = 18446744073709551616 := by decide
  have h3 : LIM = 65536 ^ 1024 := rfl
  omega
theorem vs4 {f : Nat → Int} (h : ∀ k, 4 ≤ k → k < 2100 → f k = 0) : vs 65536 f 2100 = f 0 + f 1 * 65536 + f 2 * 4294967296 + f 3 * 281474976710656 := by
  rw [vs_top (m := 4) (by omega) h]
  show 0 + f 0 * 65536 ^ 0 + f 1 * 65536 ^ 1 + f 2 * 65536 ^ 2 + f 3 * 65536 ^ 3 = _
  rw [show (65536 : Int) ^ 0 = 1 by decide, show (65536 : Int) ^ 1 = 65536 by decide, show (65536 : Int) ^ 2 = 4294967296 by decide, show (65536 : Int) ^ 3 = 281474976710656 by decide]
  omega
