theorem vs_add (B : Int) (f : Nat → Int) (q : Nat) : ∀ m : Nat, vs B f (q + m) = vs B f q + B ^ q * vs B (fun i => f (q + i)) m
  | 0 => by show vs B f q = vs B f q + B ^ q * 0; omega
  | m + 1 => by
    rw [← Nat.add_assoc, vs_s, vs_add B f q m, vs_s, Int.pow_add]
    grind
theorem vs_1 (B : Int) (f : Nat → Int) (m : Nat) : vs B f (m + 1) = f 0 + B * vs B (fun i => f (1 + i)) m := by
  rw [Nat.add_comm, vs_add]
  show vs B f 1 + B ^ 1 * _ = _
  rw [show (1 : Nat) = 0 + 1 from rfl, vs_s, Int.pow_zero, Int.pow_succ, Int.pow_zero]
  show 0 + f 0 * 1 + 1 * B * _ = _
  rw [Int.one_mul]
  omega
/-- the digits from q on -/
theorem vs_div {B : Int} (hB : 0 < B) {f : Nat → Int} {q m : Nat} (hf : dgs B (q + m) f) : vs B f (q + m) / B ^ q = vs B (fun i => f (q + i)) m := by
  have h1 := vs_nonneg hB (dgs_mono hf (Nat.le_add_right q m))
  have h2 := vs_lt hB (dgs_mono hf (Nat.le_add_right q m))
  rw [vs_add, Int.add_mul_ediv_left _ _ (Int.ne_of_gt (pw_pos hB q)), Int.ediv_eq_zero_of_lt h1 h2]
  omega
theorem vs_mod {B : Int} (hB : 0 < B) {f : Nat → Int} {q m : Nat} (hf : dgs B (q + m) f) : vs B f (q + m) % B ^ q = vs B f q := by
  have h1 := vs_nonneg hB (dgs_mono hf (Nat.le_add_right q m))
  have h2 := vs_lt hB (dgs_mono hf (Nat.le_add_right q m))
  rw [vs_add, Int.add_mul_emod_self_left, Int.emod_eq_of_lt h1 h2]
theorem vs_digit {B : Int} (hB : 0 < B) {f : Nat → Int} {q n : Nat} (hq : q < n) (hf : dgs B n f) : vs B f n / B ^ q % B = f q := by
  obtain ⟨m, rfl⟩ : ∃ m, n = q + (m + 1) := ⟨n - q - 1, by omega⟩
  rw [vs_div hB hf, vs_1, Int.add_mul_emod_self_left]
  have h := hf q hq
  exact Int.emod_eq_of_lt h.1 h.2
theorem pw2_cast (n : Nat) : ((2 ^ n : Nat) : Int) = (2 : Int) ^ n := by rw [Int.natCast_pow]; rfl
theorem pw_mul (B : Int) (m n : Nat) : (B ^ m) ^ n = B ^ (m * n) := Int.pow_mul.symm
/-- bit k of a number by its digits -/
theorem bit_digit {f : Nat → Int} {n : Nat} (hf : dgs 65536 n f) {q s : Nat} (hq : q < n) (hs : s < 16) : f q / (2 : Int) ^ s % 2 = vs 65536 f n / (2 : Int) ^ (16 * q + s) % 2 := by
  have hp : (2 : Int) ^ (16 * q + s) = 65536 ^ q * 2 ^ s := by
    rw [Int.pow_add, ← pw_mul]; rfl
  have hps := pw_pos (B := 2) (by decide) s
  have hd := vs_digit (by decide) hq hf
  rw [hp, ← Int.ediv_ediv_of_nonneg (Int.le_of_lt (pw_pos (by decide) q))]
  generalize vs 65536 f n / 65536 ^ q = t at hd ⊢
  have h1 : t = f q + 2 ^ s * ((2 : Int) ^ (15 - s) * 2 * (t / 65536)) := by
    have h2 : (2 : Int) ^ s * ((2 : Int) ^ (15 - s) * 2 * (t / 65536)) = 65536 * (t / 65536) := by
      rw [← Int.mul_assoc, ← Int.mul_assoc, ← Int.pow_add, ← Int.pow_succ, show (s + (15 - s)).succ = 16 by omega]; rfl
    rw [h2]; omega
  have h3 : t / 2 ^ s = f q / 2 ^ s + (2 : Int) ^ (15 - s) * 2 * (t / 65536) := by
    have h4 : (f q + 2 ^ s * ((2 : Int) ^ (15 - s) * 2 * (t / 65536))) / 2 ^ s = f q / 2 ^ s + (2 : Int) ^ (15 - s) * 2 * (t / 65536) := Int.add_mul_ediv_left _ _ (Int.ne_of_gt hps)
    rw [← h1] at h4
    exact h4
  rw [h3, show (2 : Int) ^ (15 - s) * 2 * (t / 65536) = 2 * (2 ^ (15 - s) * (t / 65536)) by grind, Int.add_mul_emod_self_left]
/-- how many bits a number has -/
def nb (V : Int) (z : Nat) : Prop := V < (2 : Int) ^ z ∧ (z = 0 ∨ (2 : Int) ^ (z - 1) ≤ V)
theorem nb_unique {V : Int} {z w : Nat} (h1 : nb V z) (h2 : nb V w) : z = w := by
  have key : ∀ {z w : Nat}, nb V z → nb V w → z ≤ w := by
    intro z w h1 h2
    rcases h1.2 with q | q
    · omega
    · have := pw_le (B := 2) (by decide) (Int.lt_of_le_of_lt q h2.1)
      omega
  exact Nat.le_antisymm (key h1 h2) (key h2 h1)
theorem nb_0 : nb 0 0 := ⟨by decide, Or.inl rfl⟩
/-- the bits of a number by its top digit's -/
theorem nb_top {f : Nat → Int} {n b z : Nat} (hf : dgs ((2 : Int) ^ b) (n + 1) f) (hz : nb (f n) z) (hz0 : 0 < z) : nb (vs ((2 : Int) ^ b) f (n + 1)) (b * n + z) := by
  have hB : (0 : Int) < 2 ^ b := pw_pos (by decide) b
  have h1 := vs_nonneg hB (dgs_mono hf (Nat.le_succ n))
  have h2 := vs_lt hB (dgs_mono hf (Nat.le_succ n))
  have hp := pw_pos hB n
  have e1 : (2 : Int) ^ (b * n + z) = (2 ^ b) ^ n * 2 ^ z := by rw [Int.pow_add, pw_mul]
  have e2 : (2 : Int) ^ (b * n + z - 1) = (2 ^ b) ^ n * 2 ^ (z - 1) := by rw [show b * n + z - 1 = b * n + (z - 1) by omega, Int.pow_add, pw_mul]
  rw [vs_s]
  constructor
  · rw [e1]
    have h3 := Int.mul_le_mul_of_nonneg_left (show f n + 1 ≤ 2 ^ z from hz.1) (Int.le_of_lt hp)
    grind
  · right
    rw [e2]
    have h4 := hz.2.resolve_left (Nat.ne_of_gt hz0)
    have h3 := Int.mul_le_mul_of_nonneg_left h4 (Int.le_of_lt hp)
    grind
/-- halving a number takes a bit off -/
theorem nb_half {v : Int} (hv : 0 < v) {z : Nat} (h : nb (v / 2) z) : nb v (z + 1) := by
  refine ⟨by rw [pw_s]; have := h.1; omega, Or.inr ?_⟩
  show (2 : Int) ^ z ≤ v
  rcases h.2 with q | q
  · subst q; rw [Int.pow_zero]; omega
  · rcases Nat.eq_zero_or_pos z with w | w
    · subst w; rw [Int.pow_zero]; omega
    · obtain ⟨y, rfl⟩ : ∃ y, z = y + 1 := ⟨z - 1, by omega⟩
      rw [Nat.add_sub_cancel] at q
      rw [pw_s]; omega
