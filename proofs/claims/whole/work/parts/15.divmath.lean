theorem tdiv_sg (z w : Int) : z.tdiv w = z.sign * w.sign * ((z.natAbs : Int) / (w.natAbs : Int)) := by
  rcases sg_cases z with ⟨h1, e1, a1⟩ | ⟨h1, e1, a1⟩ | ⟨h1, e1, a1⟩ <;> rcases sg_cases w with ⟨h2, e2, a2⟩ | ⟨h2, e2, a2⟩ | ⟨h2, e2, a2⟩ <;> rw [e1, e2, a1, a2]
  · rw [← Int.tdiv_eq_ediv_of_nonneg (by omega), Int.neg_tdiv, Int.tdiv_neg]; omega
  · rw [h2]; simp
  · rw [← Int.tdiv_eq_ediv_of_nonneg (by omega), Int.neg_tdiv]; omega
  · rw [h1]; simp
  · rw [h1]; simp
  · rw [h1]; simp
  · rw [← Int.tdiv_eq_ediv_of_nonneg (by omega), Int.tdiv_neg]; omega
  · rw [h2]; simp
  · rw [← Int.tdiv_eq_ediv_of_nonneg (by omega)]; omega
theorem tmod_sg {z w : Int} (hw : w ≠ 0) : z.tmod w = z.sign * ((z.natAbs : Int) % (w.natAbs : Int)) := by
  have h1 := Int.mul_tdiv_add_tmod z w
  have h2 := tdiv_sg z w
  have h3 := Int.mul_ediv_add_emod (z.natAbs : Int) (w.natAbs : Int)
  have h4 := sg_mul z
  have h5 := sg_mul w
  have h6 : w.sign * w.sign = 1 := by
    rcases sg_cases w with ⟨h2, e2, a2⟩ | ⟨h2, e2, a2⟩ | ⟨h2, e2, a2⟩
    · rw [e2]; rfl
    · exact absurd h2 hw
    · rw [e2]; rfl
  generalize (z.natAbs : Int) / (w.natAbs : Int) = q at h2 h3
  generalize (z.natAbs : Int) % (w.natAbs : Int) = r at h3
  rw [h2] at h1
  have h7 : w * (z.sign * w.sign * q) = z.sign * ((w.natAbs : Int) * q) := by
    have e : w * (z.sign * w.sign * q) = w.sign * (w.natAbs : Int) * (z.sign * w.sign * q) := by rw [h5]
    rw [e]
    have e2 : w.sign * (w.natAbs : Int) * (z.sign * w.sign * q) = w.sign * w.sign * (z.sign * ((w.natAbs : Int) * q)) := by grind
    rw [e2, h6, Int.one_mul]
  have h8 : z.sign * ((w.natAbs : Int) * q + r) = z := by rw [h3, h4]
  rw [Int.mul_add] at h8
  omega
theorem vs_upd {B : Int} {f : Nat → Int} {q : Nat} (v : Int) : ∀ {n : Nat}, q < n → vs B (fset f q v) n = vs B f n + (v - f q) * B ^ q
  | 0, h => absurd h (Nat.not_lt_zero q)
  | n + 1, h => by
    by_cases e : q = n
    · subst e
      rw [vs_push, vs_s]
      grind
    · rw [vs_s, vs_s, vs_upd v (show q < n by omega), fset_ne (by omega)]
      omega
theorem dgs_upd {B : Int} {n q : Nat} {f : Nat → Int} {v : Int} (h : dgs B n f) (hv : 0 ≤ v ∧ v < B) : dgs B n (fset f q v) := by
  intro i hi
  by_cases e : i = q
  · rw [e, fset_eq]; exact hv
  · rw [fset_ne e]; exact h i hi
/-- the digit that holds a free bit -/
theorem bit_free {h : Nat → Int} (hd : dgs 65536 2100 h) {q s : Nat} (hq : q < 2100) (hs : s < 16) (hv : vs 65536 h 2100 % 2 ^ (16 * q + s + 1) = 0) : ∃ e : Int, h q = e * ((2 ^ (s + 1) : Nat) : Int) ∧ 0 ≤ h q + ((2 ^ s : Nat) : Int) ∧ h q + ((2 ^ s : Nat) : Int) < 65536 := by
  have hb := hd q hq
  have hdg := vs_digit (B := 65536) (by decide) hq hd
  have hp : (2 : Int) ^ (16 * q + s + 1) = 65536 ^ q * 2 ^ (s + 1) := by
    rw [Nat.add_assoc, Int.pow_add, ← pw_mul]; rfl
  have hdv := Int.mul_ediv_add_emod (vs 65536 h 2100) (2 ^ (16 * q + s + 1))
  rw [hv, hp] at hdv
  have hpq := pw_pos (B := 65536) (by decide) q
  generalize vs 65536 h 2100 / (65536 ^ q * 2 ^ (s + 1)) = w at hdv
  have e1 : vs 65536 h 2100 / 65536 ^ q = 2 ^ (s + 1) * w := by
    rw [← hdv, Int.add_zero, Int.mul_assoc, Int.mul_ediv_cancel_left _ (Int.ne_of_gt hpq)]
  rw [e1] at hdg
  have h16 : (65536 : Int) = 2 ^ (s + 1) * 2 ^ (15 - s) := by
    rw [← Int.pow_add, show s + 1 + (15 - s) = 16 by omega]; rfl
  have e2 : h q = 2 ^ (s + 1) * (w % 2 ^ (15 - s)) := by
    rw [← hdg, h16, Int.mul_emod_mul_of_pos _ _ (pw_pos (by decide) (s + 1))]
  have hl := Int.emod_lt_of_pos w (pw_pos (B := 2) (by decide) (15 - s))
  have hn := Int.emod_nonneg w (Int.ne_of_gt (pw_pos (B := 2) (by decide) (15 - s)))
  have hps := pw_pos (B := 2) (by decide) s
  refine ⟨w % 2 ^ (15 - s), by rw [e2, pw2_cast, Int.mul_comm], ?_, ?_⟩
  · rw [pw2_cast]; omega
  · rw [pw2_cast]
    have h5 := Int.mul_le_mul_of_nonneg_left (show w % 2 ^ (15 - s) + 1 ≤ 2 ^ (15 - s) from hl) (Int.le_of_lt (pw_pos (B := 2) (by decide) (s + 1)))
    rw [← h16, Int.mul_add, ← e2, Int.mul_one, pw_s] at h5
    omega
theorem zrw_comm {Z : ZZ} {j n j2 n2 : Nat} {f f2 : Nat → Int} (h : j ≠ j2) : zrw (zrw Z j n f) j2 n2 f2 = zrw (zrw Z j2 n2 f2) j n f := by
  funext j' i
  unfold zrw
  by_cases h1 : j' = j2 ∧ i < n2
  · rw [if_pos h1, if_neg (fun q => h (q.1.symm.trans h1.1)), if_pos h1]
  · rw [if_neg h1, if_neg h1]
theorem zrw_zrw {Z : ZZ} {j n n2 : Nat} {f f2 : Nat → Int} (h : n ≤ n2) : zrw (zrw Z j n f) j n2 f2 = zrw Z j n2 f2 := by
  funext j' i
  unfold zrw
  by_cases h1 : j' = j ∧ i < n2
  · rw [if_pos h1, if_pos h1]
  · rw [if_neg h1, if_neg h1, if_neg (fun q => h1 ⟨q.1, by omega⟩)]
/-- one step of a division by bits -/
theorem div_step {A b : Int} (hb : 0 < b) {k : Nat} : A / 2 ^ k = 2 * (A / 2 ^ (k + 1)) + A / 2 ^ k % 2 := by
  have h1 : A / 2 ^ (k + 1) = A / 2 ^ k / 2 := by
    rw [pw_s, ← Int.ediv_ediv_of_nonneg (Int.le_of_lt (pw_pos (by decide) k))]
  rw [h1]; omega
theorem div_step2 {A b : Int} (hb : 0 < b) {k : Nat} (hA : 0 ≤ A) : (A / 2 ^ (k + 1) % b * 2 + A / 2 ^ k % 2 < b → A / 2 ^ k % b = A / 2 ^ (k + 1) % b * 2 + A / 2 ^ k % 2 ∧ A / 2 ^ k / b * 2 ^ k = A / 2 ^ (k + 1) / b * 2 ^ (k + 1)) ∧
    (b ≤ A / 2 ^ (k + 1) % b * 2 + A / 2 ^ k % 2 → A / 2 ^ k % b = A / 2 ^ (k + 1) % b * 2 + A / 2 ^ k % 2 - b ∧ A / 2 ^ k / b * 2 ^ k = A / 2 ^ (k + 1) / b * 2 ^ (k + 1) + 2 ^ k) := by
  have h0 := div_step (A := A) hb (k := k)
  have h1 := Int.mul_ediv_add_emod (A / 2 ^ (k + 1)) b
  have h2 := Int.emod_nonneg (A / 2 ^ (k + 1)) (Int.ne_of_gt hb)
  have h3 := Int.emod_lt_of_pos (A / 2 ^ (k + 1)) hb
  have h4 : 0 ≤ A / 2 ^ k % 2 ∧ A / 2 ^ k % 2 < 2 := by omega
  generalize A / 2 ^ k % 2 = t at h0 h4 ⊢
  generalize A / 2 ^ (k + 1) % b = R at h1 h2 h3 ⊢
  generalize A / 2 ^ (k + 1) / b = q at h1 ⊢
  generalize A / 2 ^ (k + 1) = X at h0 h1
  generalize A / 2 ^ k = Y at h0 ⊢
  constructor
  · intro h
    have e : Y = (R * 2 + t) + b * (2 * q) := by grind
    have e1 : Y % b = R * 2 + t := by rw [e, Int.add_mul_emod_self_left]; exact Int.emod_eq_of_lt (by omega) h
    have e2 : Y / b = 2 * q := by rw [e, Int.add_mul_ediv_left _ _ (Int.ne_of_gt hb), Int.ediv_eq_zero_of_lt (by omega) h]; omega
    refine ⟨e1, ?_⟩
    rw [e2, pw_s]; grind
  · intro h
    have e : Y = (R * 2 + t - b) + b * (2 * q + 1) := by grind
    have e1 : Y % b = R * 2 + t - b := by rw [e, Int.add_mul_emod_self_left]; exact Int.emod_eq_of_lt (by omega) (by omega)
    have e2 : Y / b = 2 * q + 1 := by rw [e, Int.add_mul_ediv_left _ _ (Int.ne_of_gt hb), Int.ediv_eq_zero_of_lt (by omega) (by omega)]; omega
    refine ⟨e1, ?_⟩
    rw [e2, pw_s]; grind
theorem zrw_id {Z : ZZ} {j n : Nat} {f : Nat → Int} (h : ∀ i, i < n → f i = Z j i) : zrw Z j n f = Z := by
  funext j' i
  unfold zrw
  by_cases q : j' = j ∧ i < n
  · rw [if_pos q, h i q.2, q.1]
  · rw [if_neg q]
