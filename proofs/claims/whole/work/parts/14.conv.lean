/-! products, column by column -/
def cv (f g : Nat → Int) (k : Nat) : Nat → Int
  | 0 => 0
  | t + 1 => cv f g k t + f t * g (k - t)
theorem cv_s (f g : Nat → Int) (k t : Nat) : cv f g k (t + 1) = cv f g k t + f t * g (k - t) := rfl
theorem vs_plus (B : Int) (f g : Nat → Int) : ∀ n, vs B (fun i => f i + g i) n = vs B f n + vs B g n
  | 0 => rfl
  | n + 1 => by rw [vs_s, vs_s, vs_s, vs_plus B f g n]; grind
theorem vs_scale (B c : Int) (f : Nat → Int) : ∀ n, vs B (fun i => c * f i) n = c * vs B f n
  | 0 => by show (0 : Int) = c * 0; omega
  | n + 1 => by rw [vs_s, vs_s, vs_scale B c f n]; grind
theorem vs_zero {B : Int} {f : Nat → Int} {n : Nat} (h : ∀ i, i < n → f i = 0) : vs B f n = 0 := by
  rw [vs_top (m := 0) (Nat.zero_le n) (fun i _ hi => h i hi)]; rfl
theorem vs_col (B : Int) (g : Nat → Int) (c : Int) {n N : Nat} (hn : n ≤ N) : vs B (fun j => if n ≤ j then c * g (j - n) else 0) N = c * B ^ n * vs B g (N - n) := by
  obtain ⟨M, rfl⟩ := Nat.exists_eq_add_of_le hn
  rw [vs_add, vs_zero (fun i hi => if_neg (by omega)), Nat.add_sub_cancel_left]
  rw [vs_congr (g := fun i => c * g i) (fun i _ => by show (if n ≤ n + i then c * g (n + i - n) else 0) = _; rw [if_pos (by omega), Nat.add_sub_cancel_left]), vs_scale]
  grind
theorem vs_conv (B : Int) (f g : Nat → Int) {m N : Nat} (hg : ∀ i, m ≤ i → i < N → g i = 0) : ∀ n, n + m ≤ N → vs B (fun j => cv f g j (min n (j + 1))) N = vs B f n * vs B g m
  | 0, _ => by
    rw [vs_zero (fun i _ => by rw [Nat.zero_min]; rfl)]
    show (0 : Int) = 0 * _
    omega
  | n + 1, h => by
    have ih := vs_conv B f g hg n (by omega)
    have e : vs B (fun j => cv f g j (min (n + 1) (j + 1))) N = vs B (fun j => cv f g j (min n (j + 1)) + (if n ≤ j then f n * g (j - n) else 0)) N := by
      refine vs_congr (fun j _ => ?_)
      show cv f g j (min (n + 1) (j + 1)) = cv f g j (min n (j + 1)) + (if n ≤ j then f n * g (j - n) else 0)
      by_cases q : n ≤ j
      · rw [if_pos q, Nat.min_eq_left (by omega), Nat.min_eq_left (by omega), cv_s]
      · rw [if_neg q, Nat.min_eq_right (by omega), Nat.min_eq_right (by omega)]; omega
    rw [e, vs_plus, ih, vs_col B g (f n) (by omega), vs_top (f := g) (m := m) (n := N - n) (by omega) (fun i h1 h2 => hg i h1 (by omega)), vs_s]
    grind
theorem cv_zero {f g : Nat → Int} {k : Nat} : ∀ {t : Nat}, (∀ i, i < t → f i * g (k - i) = 0) → cv f g k t = 0
  | 0, _ => rfl
  | t + 1, h => by rw [cv_s, cv_zero (fun i hi => h i (Nat.lt_succ_of_lt hi)), h t (Nat.lt_succ_self t)]; rfl
theorem cv_tail {f g : Nat → Int} {k t : Nat} : ∀ {u : Nat}, t ≤ u → (∀ i, t ≤ i → i < u → f i = 0) → cv f g k u = cv f g k t
  | 0, h, _ => by rw [Nat.le_zero.mp h]
  | u + 1, h, h0 => by
    rcases Nat.lt_or_ge u t with q | q
    · rw [show t = u + 1 by omega]
    · rw [cv_s, cv_tail q (fun i h1 h2 => h0 i h1 (Nat.lt_succ_of_lt h2)), h0 u q (Nat.lt_succ_self u)]; omega
theorem cv_bound {f g : Nat → Int} {N : Nat} (hf : dgs 65536 N f) (hg : dgs 65536 N g) {k : Nat} (hk : k < N) : ∀ {t : Nat}, t ≤ k + 1 → 0 ≤ cv f g k t ∧ cv f g k t ≤ t * 4294836225
  | 0, _ => ⟨Int.le_refl 0, by show (0 : Int) ≤ _; omega⟩
  | t + 1, h => by
    have h1 := cv_bound hf hg hk (t := t) (by omega)
    have a1 := hf t (by omega)
    have a2 := hg (k - t) (by omega)
    have p1 := Int.mul_nonneg a1.1 a2.1
    have p2 : f t * g (k - t) ≤ 65535 * 65535 := Int.mul_le_mul (by omega) (by omega) a2.1 (by decide)
    rw [cv_s]
    omega
theorem zrw_self {Z : ZZ} {j n N : Nat} {f : Nat → Int} (h : n ≤ N) : zrw Z j n f = zrw Z j N (zrw Z j n f j) := by
  funext j' i
  by_cases q : j' = j
  · subst q
    rcases Nat.lt_or_ge i N with w | w
    · rw [zrw_in w]
    · rw [zrw_ge w, zrw_ge (by omega)]
  · rw [zrw_off q, zrw_off q]
