/-- the digits of a row are what they must be -/
def dgs (B : Int) (N : Nat) (f : Nat → Int) : Prop := ∀ i, i < N → 0 ≤ f i ∧ f i < B
/-- how many digits a row has, without zeros ahead: the greatest n ≤ N with a digit at n - 1 -/
def lenr (f : Nat → Int) : Nat → Nat
  | 0 => 0
  | n + 1 => if f n = 0 then lenr f n else n + 1
theorem lenr_s (f : Nat → Int) (n : Nat) : lenr f (n + 1) = if f n = 0 then lenr f n else n + 1 := rfl
/-! digits to the base B, the lowest first -/
def vs (B : Int) (f : Nat → Int) : Nat → Int
  | 0 => 0
  | n + 1 => vs B f n + f n * B ^ n
theorem vs_s (B : Int) (f : Nat → Int) (n : Nat) : vs B f (n + 1) = vs B f n + f n * B ^ n := rfl
theorem vs_congr {B : Int} {f g : Nat → Int} : ∀ {n : Nat}, (∀ i, i < n → f i = g i) → vs B f n = vs B g n
  | 0, _ => rfl
  | n + 1, h => by rw [vs_s, vs_s, vs_congr (fun i hi => h i (Nat.lt_succ_of_lt hi)), h n (Nat.lt_succ_self n)]
theorem pw_pos {B : Int} (hB : 0 < B) (n : Nat) : 0 < B ^ n := Int.pow_pos hB
theorem pw_s (B : Int) (n : Nat) : B ^ (n + 1) = B ^ n * B := Int.pow_succ B n
theorem vs_nonneg {B : Int} (hB : 0 < B) {f : Nat → Int} : ∀ {n : Nat}, dgs B n f → 0 ≤ vs B f n
  | 0, _ => Int.le_refl 0
  | n + 1, h => by
    have h1 := vs_nonneg hB (n := n) (fun i hi => h i (Nat.lt_succ_of_lt hi))
    have h2 := Int.mul_nonneg (h n (Nat.lt_succ_self n)).1 (Int.le_of_lt (pw_pos hB n))
    rw [vs_s]; omega
theorem vs_lt {B : Int} (hB : 0 < B) {f : Nat → Int} : ∀ {n : Nat}, dgs B n f → vs B f n < B ^ n
  | 0, _ => by show (0 : Int) < B ^ 0; rw [Int.pow_zero]; decide
  | n + 1, h => by
    have h1 := vs_lt hB (n := n) (fun i hi => h i (Nat.lt_succ_of_lt hi))
    have h3 := (h n (Nat.lt_succ_self n)).2
    have h2 : (f n + 1) * B ^ n ≤ B * B ^ n := Int.mul_le_mul_of_nonneg_right (by omega) (Int.le_of_lt (pw_pos hB n))
    rw [vs_s, pw_s, Int.mul_comm (B ^ n) B]
    rw [Int.add_mul] at h2
    omega
/-- the digits above m are 0 -/
theorem vs_top {B : Int} {f : Nat → Int} {m : Nat} : ∀ {n : Nat}, m ≤ n → (∀ i, m ≤ i → i < n → f i = 0) → vs B f n = vs B f m
  | 0, h, _ => by rw [Nat.le_zero.mp h]
  | n + 1, h, h0 => by
    rcases Nat.lt_or_ge n m with q | q
    · rw [show m = n + 1 by omega]
    · rw [vs_s, vs_top q (fun i h1 h2 => h0 i h1 (Nat.lt_succ_of_lt h2)), h0 n q (Nat.lt_succ_self n)]
      omega
/-- f, but v at n -/
def fset (f : Nat → Int) (n : Nat) (v : Int) : Nat → Int := fun k => if k = n then v else f k
theorem fset_eq (f : Nat → Int) (n : Nat) (v : Int) : fset f n v n = v := if_pos rfl
theorem fset_ne {f : Nat → Int} {n k : Nat} {v : Int} (h : k ≠ n) : fset f n v k = f k := if_neg h
theorem vs_push (B : Int) (f : Nat → Int) (n : Nat) (v : Int) : vs B (fset f n v) (n + 1) = vs B f n + v * B ^ n := by
  rw [vs_s, fset_eq, vs_congr (fun i hi => fset_ne (Nat.ne_of_lt hi))]
theorem dgs_push {B : Int} {n : Nat} {f : Nat → Int} {v : Int} (h : dgs B n f) (hv : 0 ≤ v ∧ v < B) : dgs B (n + 1) (fset f n v) := by
  intro i hi
  by_cases q : i = n
  · rw [q, fset_eq]; exact hv
  · rw [fset_ne q]; exact h i (by omega)
theorem zrw_push (Z : ZZ) (j n : Nat) (f : Nat → Int) (v : Int) : zup (zrw Z j n f) j n v = zrw Z j (n + 1) (fset f n v) := by
  rw [← zrw_succ, fset_eq]
  congr 1
  exact zrw_congr (fun i hi => (fset_ne (Nat.ne_of_lt hi)).symm)
theorem dgs_mono {B : Int} {n m : Nat} {f : Nat → Int} (h : dgs B n f) (hm : m ≤ n) : dgs B m f := fun i hi => h i (Nat.lt_of_lt_of_le hi hm)
theorem dgs_0 (B : Int) (f : Nat → Int) : dgs B 0 f := fun i hi => absurd hi (Nat.not_lt_zero i)
theorem vs_diff {B : Int} {f g : Nat → Int} {k : Nat} : ∀ {n : Nat}, k ≤ n → (∀ i, k ≤ i → i < n → f i = g i) → vs B f n - vs B g n = vs B f k - vs B g k
  | 0, h, _ => by rw [Nat.le_zero.mp h]
  | n + 1, h, h0 => by
    rcases Nat.lt_or_ge n k with q | q
    · rw [show k = n + 1 by omega]
    · have := vs_diff (B := B) q (fun i h1 h2 => h0 i h1 (Nat.lt_succ_of_lt h2))
      rw [vs_s, vs_s, h0 n q (Nat.lt_succ_self n)]
      omega
theorem vs_cmp {B : Int} (hB : 0 < B) {f g : Nat → Int} {k n : Nat} (hf : dgs B n f) (hg : dgs B n g) (hk : k < n) (h : ∀ i, k < i → i < n → f i = g i) (hlt : f k < g k) : vs B f n < vs B g n := by
  have h1 := vs_diff (B := B) (k := k + 1) (n := n) hk (fun i q1 q2 => h i q1 q2)
  have h2 := vs_lt hB (dgs_mono hf (Nat.le_of_lt hk))
  have h3 := vs_nonneg hB (dgs_mono hg (Nat.le_of_lt hk))
  have h4 := Int.mul_le_mul_of_nonneg_right (show f k + 1 ≤ g k from hlt) (Int.le_of_lt (pw_pos hB k))
  rw [vs_s, vs_s] at h1
  rw [Int.add_mul] at h4
  omega
theorem vs_eq {B : Int} {f g : Nat → Int} {n : Nat} (h : ∀ i, i < n → f i = g i) : vs B f n = vs B g n := vs_congr h
/-- the top digit of a row is 0 above its length, and not 0 at it -/
theorem lenr_le (f : Nat → Int) : ∀ n, lenr f n ≤ n
  | 0 => Nat.le_refl 0
  | n + 1 => by
    rw [lenr_s]
    split
    · exact Nat.le_succ_of_le (lenr_le f n)
    · exact Nat.le_refl _
theorem lenr_zero (f : Nat → Int) : ∀ n i, lenr f n ≤ i → i < n → f i = 0
  | 0, i, _, h => absurd h (Nat.not_lt_zero i)
  | n + 1, i, h1, h2 => by
    rw [lenr_s] at h1
    split at h1
    · rename_i h0
      by_cases q : i = n
      · rw [q]; exact h0
      · exact lenr_zero f n i h1 (by omega)
    · omega
theorem lenr_top (f : Nat → Int) : ∀ n, lenr f n = 0 ∨ f (lenr f n - 1) ≠ 0
  | 0 => Or.inl rfl
  | n + 1 => by
    rw [lenr_s]
    split
    · exact lenr_top f n
    · rename_i h0
      exact Or.inr h0
theorem vs_len (B : Int) (f : Nat → Int) (n : Nat) : vs B f n = vs B f (lenr f n) := vs_top (lenr_le f n) (fun i h1 h2 => lenr_zero f n i h1 h2)
/-- the length by the value -/
theorem lenr_ge {B : Int} (hB : 0 < B) {f : Nat → Int} {n : Nat} (hf : dgs B n f) (h : 0 < lenr f n) : B ^ (lenr f n - 1) ≤ vs B f n := by
  have ht := (lenr_top f n).resolve_left (Nat.ne_of_gt h)
  have hl := lenr_le f n
  rw [vs_len]
  obtain ⟨m, hm⟩ : ∃ m, lenr f n = m + 1 := ⟨lenr f n - 1, by omega⟩
  rw [hm] at ht ⊢
  rw [vs_s, Nat.add_sub_cancel]
  rw [Nat.add_sub_cancel] at ht
  have h1 := vs_nonneg hB (dgs_mono hf (show m ≤ n by omega))
  have h2 := (hf m (by omega)).1
  have h3 := Int.mul_le_mul_of_nonneg_right (show 1 ≤ f m by omega) (Int.le_of_lt (pw_pos hB m))
  omega
theorem lenr_lt {B : Int} (hB : 0 < B) {f : Nat → Int} {n : Nat} (hf : dgs B n f) : vs B f n < B ^ (lenr f n) := by
  rw [vs_len]
  exact vs_lt hB (dgs_mono hf (lenr_le f n))
theorem pw_mono {B : Int} (hB : 1 < B) {m n : Nat} (h : m ≤ n) : B ^ m ≤ B ^ n := by
  obtain ⟨d, rfl⟩ := Nat.exists_eq_add_of_le h
  rw [Int.pow_add]
  have h1 := pw_pos (show 0 < B by omega) m
  have h2 := pw_pos (show 0 < B by omega) d
  have h3 := Int.mul_le_mul_of_nonneg_left (show 1 ≤ B ^ d by omega) (Int.le_of_lt h1)
  omega
theorem pw_le {B : Int} (hB : 1 < B) {m n : Nat} (h : B ^ m < B ^ n) : m < n := by
  rcases Nat.lt_or_ge m n with q | q
  · exact q
  · have := pw_mono hB q
    omega
/-- length at most m just when the value is below B^m -/
theorem lenr_iff {B : Int} (hB : 1 < B) {f : Nat → Int} {n m : Nat} (hf : dgs B n f) : lenr f n ≤ m ↔ vs B f n < B ^ m := by
  constructor
  · intro h
    exact Int.lt_of_lt_of_le (lenr_lt (by omega) hf) (pw_mono hB h)
  · intro h
    rcases Nat.lt_or_ge m (lenr f n) with q | q
    · have h1 := lenr_ge (show 0 < B by omega) hf (by omega)
      have h2 := pw_le hB (Int.lt_of_le_of_lt h1 h)
      omega
    · exact q
theorem lenr_0iff {B : Int} (hB : 1 < B) {f : Nat → Int} {n : Nat} (hf : dgs B n f) : lenr f n = 0 ↔ vs B f n = 0 := by
  have h := lenr_iff hB hf (m := 0)
  have h1 := vs_nonneg (show 0 < B by omega) hf
  rw [Int.pow_zero] at h
  omega
