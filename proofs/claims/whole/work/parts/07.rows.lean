def cz (a b : Int) : Int := if b < a then 1 else if a = b then 0 else -1
theorem cz_spec (a b : Int) : (b < a ∧ cz a b = 1) ∨ (a = b ∧ cz a b = 0) ∨ (a < b ∧ cz a b = -1) := by
  unfold cz
  by_cases h1 : b < a
  · exact Or.inl ⟨h1, if_pos h1⟩
  · by_cases h2 : a = b
    · exact Or.inr (Or.inl ⟨h2, by rw [if_neg h1, if_pos h2]⟩)
    · exact Or.inr (Or.inr ⟨by omega, by rw [if_neg h1, if_neg h2]⟩)
theorem lg_Z {a b : Int} (ha : i64 a) (hb : i64 b) : lg_cmp (lZ a) (lZ b) = iZ (cz a b) := by
  unfold lg_cmp cz
  by_cases h1 : b < a
  · rw [if_pos ((lZ_lt hb ha).mpr h1), if_pos h1]; rfl
  · rw [if_neg (fun q => h1 ((lZ_lt hb ha).mp q)), if_neg h1]
    by_cases h2 : a = b
    · rw [if_pos (by rw [h2]), if_pos h2]; rfl
    · rw [if_neg (fun q => h2 ((lZ_eq ha hb).mp q)), if_neg h2]; rfl
abbrev st1 (lv : List (Nat × Value)) (i : Nat) (v : Value) : List (Nat × Value) := (i, v) :: lv.filter (fun q => !(q.1 == i) && !(q.1 + 1 == i && q.2.category == 2))
abbrev st2 (lv : List (Nat × Value)) (i : Nat) (v : Value) : List (Nat × Value) := (i, v) :: lv.filter (fun q => !(q.1 == i) && (!(q.1 == i + 1) && !(q.1 + 1 == i && q.2.category == 2)))
theorem iZ_0 : (0 : Int32) = iZ 0 := by decide
section RW
variable {σ : Type} {l : Launch} {D : va_G} {tys : List (ClassId × FieldType)} {wf : σ → va_W} {cc : ByteArray} {nL : Nat} {Ts : List Cond} {own : String} {F km LL : Nat} {rt : Option FieldType} {post : Option Value → σ → Prop} {px : String → σ → Prop} {J : JT σ}
variable {x : σ} {k pc : Nat} {lv : List (Nat × Value)} {rest : List Value}
theorem j_iconst (hJ : IsJ l D tys wf cc nL Ts own F km LL rt post px J) {n : Int} (hdg : decode cc pc = .ok (.iconst n, 1)) (kk : J x k (pc + 1) lv (.int (iZ n) :: rest)) : J x k pc lv rest := by
  obtain ⟨p, e, s, m, args, below, meth, c, A, ⟨hx, hb, hml, hown, hts⟩, hE, hM, hK, hA, rfl⟩ := hJ
  intro H locs ls hw hl
  exact lv_iconst hx hb hdg rfl (kk H locs ls hw hl)
theorem j_bipush (hJ : IsJ l D tys wf cc nL Ts own F km LL rt post px J) {n : Int} (hn : (Int8.ofInt n).toInt32 = iZ n) (hdg : decode cc pc = .ok (.bipush n, 2)) (kk : J x k (pc + 2) lv (.int (iZ n) :: rest)) : J x k pc lv rest := by
  obtain ⟨p, e, s, m, args, below, meth, c, A, ⟨hx, hb, hml, hown, hts⟩, hE, hM, hK, hA, rfl⟩ := hJ
  intro H locs ls hw hl
  exact lv_bipush hx hb hdg hn (kk H locs ls hw hl)
theorem j_sipush (hJ : IsJ l D tys wf cc nL Ts own F km LL rt post px J) {n : Int} (hn : (Int16.ofInt n).toInt32 = iZ n) (hdg : decode cc pc = .ok (.sipush n, 3)) (kk : J x k (pc + 3) lv (.int (iZ n) :: rest)) : J x k pc lv rest := by
  obtain ⟨p, e, s, m, args, below, meth, c, A, ⟨hx, hb, hml, hown, hts⟩, hE, hM, hK, hA, rfl⟩ := hJ
  intro H locs ls hw hl
  exact lv_sipush hx hb hdg hn (kk H locs ls hw hl)
theorem j_lconst (hJ : IsJ l D tys wf cc nL Ts own F km LL rt post px J) {n : Fin 2} {z : Int} (hz : Int64.ofNat (n : Nat) = lZ z) (hdg : decode cc pc = .ok (.lconst n, 1)) (kk : J x k (pc + 1) lv (.long (lZ z) :: rest)) : J x k pc lv rest := by
  obtain ⟨p, e, s, m, args, below, meth, c, A, ⟨hx, hb, hml, hown, hts⟩, hE, hM, hK, hA, rfl⟩ := hJ
  intro H locs ls hw hl
  exact lv_lconst hx hb hdg hz (kk H locs ls hw hl)
theorem j_ldc (hJ : IsJ l D tys wf cc nL Ts own F km LL rt post px J) {i : Nat} {v : Int32} {z : Int} (hz : v = iZ z) (hin : Jvm.Cond.constant own i v ∈ Ts) (hdg : decode cc pc = .ok (.ldc i, 2)) (kk : J x k (pc + 2) lv (.int (iZ z) :: rest)) : J x k pc lv rest := by
  obtain ⟨p, e, s, m, args, below, meth, c, A, ⟨hx, hb, hml, hown, hts⟩, hE, hM, hK, hA, rfl⟩ := hJ
  intro H locs ls hw hl
  subst hz
  exact lv_ldc hx hb hown (hts _ hin) hdg (kk H locs ls hw hl)
theorem j_ldc2 (hJ : IsJ l D tys wf cc nL Ts own F km LL rt post px J) {i : Nat} {v : Int64} {z : Int} (hz : v = lZ z) (hin : Jvm.Cond.constantLong own i v ∈ Ts) (hdg : decode cc pc = .ok (.ldc2_w i, 3)) (kk : J x k (pc + 3) lv (.long (lZ z) :: rest)) : J x k pc lv rest := by
  obtain ⟨p, e, s, m, args, below, meth, c, A, ⟨hx, hb, hml, hown, hts⟩, hE, hM, hK, hA, rfl⟩ := hJ
  intro H locs ls hw hl
  subst hz
  exact lv_ldc2 hx hb hown (hts _ hin) hdg (kk H locs ls hw hl)
theorem j_iload_n (hJ : IsJ l D tys wf cc nL Ts own F km LL rt post px J) {i : Fin 4} {v : Int32} (hdg : decode cc pc = .ok (.iload_n i, 1)) (hv : lvg lv (i : Nat) = some (.int v)) (kk : J x k (pc + 1) lv (.int v :: rest)) : J x k pc lv rest := by
  obtain ⟨p, e, s, m, args, below, meth, c, A, ⟨hx, hb, hml, hown, hts⟩, hE, hM, hK, hA, rfl⟩ := hJ
  intro H locs ls hw hl
  exact lv_iload_n hx hb hdg rfl (lvg_at hl hv) (kk H locs ls hw hl)
theorem j_iload (hJ : IsJ l D tys wf cc nL Ts own F km LL rt post px J) {i : Nat} {v : Int32} (hdg : decode cc pc = .ok (.iload i, 2)) (hv : lvg lv i = some (.int v)) (kk : J x k (pc + 2) lv (.int v :: rest)) : J x k pc lv rest := by
  obtain ⟨p, e, s, m, args, below, meth, c, A, ⟨hx, hb, hml, hown, hts⟩, hE, hM, hK, hA, rfl⟩ := hJ
  intro H locs ls hw hl
  exact lv_iload hx hb hdg (lvg_at hl hv) (kk H locs ls hw hl)
theorem j_istore_n (hJ : IsJ l D tys wf cc nL Ts own F km LL rt post px J) {i : Fin 4} {v : Int32} (hn : (i : Nat) < nL) (hdg : decode cc pc = .ok (.istore_n i, 1)) (kk : J x k (pc + 1) (st1 lv (i : Nat) (.int v)) rest) : J x k pc lv (.int v :: rest) := by
  obtain ⟨p, e, s, m, args, below, meth, c, A, ⟨hx, hb, hml, hown, hts⟩, hE, hM, hK, hA, rfl⟩ := hJ
  intro H locs ls hw hl
  exact lv_istore_n hx hb hdg rfl hl hn rfl (fun ls' hl' => kk H locs ls' hw hl')
theorem j_istore (hJ : IsJ l D tys wf cc nL Ts own F km LL rt post px J) {i : Nat} {v : Int32} (hn : i < nL) (hdg : decode cc pc = .ok (.istore i, 2)) (kk : J x k (pc + 2) (st1 lv i (.int v)) rest) : J x k pc lv (.int v :: rest) := by
  obtain ⟨p, e, s, m, args, below, meth, c, A, ⟨hx, hb, hml, hown, hts⟩, hE, hM, hK, hA, rfl⟩ := hJ
  intro H locs ls hw hl
  exact lv_istore hx hb hdg hl hn rfl (fun ls' hl' => kk H locs ls' hw hl')
theorem j_lload_n (hJ : IsJ l D tys wf cc nL Ts own F km LL rt post px J) {i : Fin 4} {v : Int64} (hdg : decode cc pc = .ok (.lload_n i, 1)) (hv : lvg lv (i : Nat) = some (.long v)) (kk : J x k (pc + 1) lv (.long v :: rest)) : J x k pc lv rest := by
  obtain ⟨p, e, s, m, args, below, meth, c, A, ⟨hx, hb, hml, hown, hts⟩, hE, hM, hK, hA, rfl⟩ := hJ
  intro H locs ls hw hl
  exact lv_lload_n hx hb hdg rfl (lvg_at hl hv) (kk H locs ls hw hl)
theorem j_lload (hJ : IsJ l D tys wf cc nL Ts own F km LL rt post px J) {i : Nat} {v : Int64} (hdg : decode cc pc = .ok (.lload i, 2)) (hv : lvg lv i = some (.long v)) (kk : J x k (pc + 2) lv (.long v :: rest)) : J x k pc lv rest := by
  obtain ⟨p, e, s, m, args, below, meth, c, A, ⟨hx, hb, hml, hown, hts⟩, hE, hM, hK, hA, rfl⟩ := hJ
  intro H locs ls hw hl
  exact lv_lload hx hb hdg (lvg_at hl hv) (kk H locs ls hw hl)
theorem j_lstore_n (hJ : IsJ l D tys wf cc nL Ts own F km LL rt post px J) {i : Fin 4} {v : Int64} (hn : (i : Nat) + 1 < nL) (hdg : decode cc pc = .ok (.lstore_n i, 1)) (kk : J x k (pc + 1) (st2 lv (i : Nat) (.long v)) rest) : J x k pc lv (.long v :: rest) := by
  obtain ⟨p, e, s, m, args, below, meth, c, A, ⟨hx, hb, hml, hown, hts⟩, hE, hM, hK, hA, rfl⟩ := hJ
  intro H locs ls hw hl
  exact lv_lstore_n hx hb hdg rfl hl hn rfl (fun ls' hl' => kk H locs ls' hw hl')
theorem j_lstore (hJ : IsJ l D tys wf cc nL Ts own F km LL rt post px J) {i : Nat} {v : Int64} (hn : i + 1 < nL) (hdg : decode cc pc = .ok (.lstore i, 2)) (kk : J x k (pc + 2) (st2 lv i (.long v)) rest) : J x k pc lv (.long v :: rest) := by
  obtain ⟨p, e, s, m, args, below, meth, c, A, ⟨hx, hb, hml, hown, hts⟩, hE, hM, hK, hA, rfl⟩ := hJ
  intro H locs ls hw hl
  exact lv_lstore hx hb hdg hl hn rfl (fun ls' hl' => kk H locs ls' hw hl')
theorem j_aload_n (hJ : IsJ l D tys wf cc nL Ts own F km LL rt post px J) {i : Fin 4} {v : Nat} (hdg : decode cc pc = .ok (.aload_n i, 1)) (hv : lvg lv (i : Nat) = some (.ref v)) (kk : J x k (pc + 1) lv (.ref v :: rest)) : J x k pc lv rest := by
  obtain ⟨p, e, s, m, args, below, meth, c, A, ⟨hx, hb, hml, hown, hts⟩, hE, hM, hK, hA, rfl⟩ := hJ
  intro H locs ls hw hl
  exact lv_aload_n hx hb hdg rfl (lvg_at hl hv) (kk H locs ls hw hl)
theorem j_aload (hJ : IsJ l D tys wf cc nL Ts own F km LL rt post px J) {i : Nat} {v : Nat} (hdg : decode cc pc = .ok (.aload i, 2)) (hv : lvg lv i = some (.ref v)) (kk : J x k (pc + 2) lv (.ref v :: rest)) : J x k pc lv rest := by
  obtain ⟨p, e, s, m, args, below, meth, c, A, ⟨hx, hb, hml, hown, hts⟩, hE, hM, hK, hA, rfl⟩ := hJ
  intro H locs ls hw hl
  exact lv_aload hx hb hdg (lvg_at hl hv) (kk H locs ls hw hl)
theorem j_astore_n (hJ : IsJ l D tys wf cc nL Ts own F km LL rt post px J) {i : Fin 4} {v : Nat} (hn : (i : Nat) < nL) (hdg : decode cc pc = .ok (.astore_n i, 1)) (kk : J x k (pc + 1) (st1 lv (i : Nat) (.ref v)) rest) : J x k pc lv (.ref v :: rest) := by
  obtain ⟨p, e, s, m, args, below, meth, c, A, ⟨hx, hb, hml, hown, hts⟩, hE, hM, hK, hA, rfl⟩ := hJ
  intro H locs ls hw hl
  exact lv_astore_n hx hb hdg rfl hl hn rfl (fun ls' hl' => kk H locs ls' hw hl')
theorem j_astore (hJ : IsJ l D tys wf cc nL Ts own F km LL rt post px J) {i : Nat} {v : Nat} (hn : i < nL) (hdg : decode cc pc = .ok (.astore i, 2)) (kk : J x k (pc + 2) (st1 lv i (.ref v)) rest) : J x k pc lv (.ref v :: rest) := by
  obtain ⟨p, e, s, m, args, below, meth, c, A, ⟨hx, hb, hml, hown, hts⟩, hE, hM, hK, hA, rfl⟩ := hJ
  intro H locs ls hw hl
  exact lv_astore hx hb hdg hl hn rfl (fun ls' hl' => kk H locs ls' hw hl')
theorem lvg_mem {lv : List (Nat × Value)} {i : Nat} {v : Value} (hv : lvg lv i = some v) : ∃ j : Nat, lv[j]? = some (i, v) := by
  induction lv with
  | nil => cases hv
  | cons q r ih =>
    unfold lvg at hv
    split at hv
    · rename_i hq
      cases hv
      exact ⟨0, by rw [← hq]; rfl⟩
    · obtain ⟨j, hj⟩ := ih hv
      exact ⟨j + 1, hj⟩
theorem j_iinc (hJ : IsJ l D tys wf cc nL Ts own F km LL rt post px J) {i : Nat} {n a : Int} (hn : i < nL) (hdg : decode cc pc = .ok (.iinc i n, 3)) (hv : lvg lv i = some (.int (iZ a))) (kk : J x k (pc + 3) (st1 lv i (.int (iZ (a + n)))) rest) : J x k pc lv rest := by
  obtain ⟨p, e, s, m, args, below, meth, c, A, ⟨hx, hb, hml, hown, hts⟩, hE, hM, hK, hA, rfl⟩ := hJ
  intro H locs ls hw hl
  obtain ⟨j, hj⟩ := lvg_mem hv
  exact lv_iinc (v := iZ (a + n)) hx hb hdg hl hj (iZ_add a n) hn rfl (fun ls' hl' => kk H locs ls' hw hl')
theorem j_iadd (hJ : IsJ l D tys wf cc nL Ts own F km LL rt post px J) {a b : Int} (hdg : decode cc pc = .ok (.iadd, 1)) (kk : J x k (pc + 1) lv (.int (iZ (a + b)) :: rest)) : J x k pc lv (.int (iZ b) :: .int (iZ a) :: rest) := by
  obtain ⟨p, e, s, m, args, below, meth, c, A, ⟨hx, hb, hml, hown, hts⟩, hE, hM, hK, hA, rfl⟩ := hJ
  intro H locs ls hw hl
  refine lv_iadd hx hb hdg ?_
  rw [iZ_add]
  exact kk H locs ls hw hl
theorem j_ladd (hJ : IsJ l D tys wf cc nL Ts own F km LL rt post px J) {a b : Int} (hdg : decode cc pc = .ok (.ladd, 1)) (kk : J x k (pc + 1) lv (.long (lZ (a + b)) :: rest)) : J x k pc lv (.long (lZ b) :: .long (lZ a) :: rest) := by
  obtain ⟨p, e, s, m, args, below, meth, c, A, ⟨hx, hb, hml, hown, hts⟩, hE, hM, hK, hA, rfl⟩ := hJ
  intro H locs ls hw hl
  refine lv_ladd hx hb hdg ?_
  rw [lZ_add]
  exact kk H locs ls hw hl
theorem j_isub (hJ : IsJ l D tys wf cc nL Ts own F km LL rt post px J) {a b : Int} (hdg : decode cc pc = .ok (.isub, 1)) (kk : J x k (pc + 1) lv (.int (iZ (a - b)) :: rest)) : J x k pc lv (.int (iZ b) :: .int (iZ a) :: rest) := by
  obtain ⟨p, e, s, m, args, below, meth, c, A, ⟨hx, hb, hml, hown, hts⟩, hE, hM, hK, hA, rfl⟩ := hJ
  intro H locs ls hw hl
  refine lv_isub hx hb hdg ?_
  rw [iZ_sub]
  exact kk H locs ls hw hl
theorem j_lsub (hJ : IsJ l D tys wf cc nL Ts own F km LL rt post px J) {a b : Int} (hdg : decode cc pc = .ok (.lsub, 1)) (kk : J x k (pc + 1) lv (.long (lZ (a - b)) :: rest)) : J x k pc lv (.long (lZ b) :: .long (lZ a) :: rest) := by
  obtain ⟨p, e, s, m, args, below, meth, c, A, ⟨hx, hb, hml, hown, hts⟩, hE, hM, hK, hA, rfl⟩ := hJ
  intro H locs ls hw hl
  refine lv_lsub hx hb hdg ?_
  rw [lZ_sub]
  exact kk H locs ls hw hl
theorem j_imul (hJ : IsJ l D tys wf cc nL Ts own F km LL rt post px J) {a b : Int} (hdg : decode cc pc = .ok (.imul, 1)) (kk : J x k (pc + 1) lv (.int (iZ (a * b)) :: rest)) : J x k pc lv (.int (iZ b) :: .int (iZ a) :: rest) := by
  obtain ⟨p, e, s, m, args, below, meth, c, A, ⟨hx, hb, hml, hown, hts⟩, hE, hM, hK, hA, rfl⟩ := hJ
  intro H locs ls hw hl
  refine lv_imul hx hb hdg ?_
  rw [iZ_mul]
  exact kk H locs ls hw hl
theorem j_lmul (hJ : IsJ l D tys wf cc nL Ts own F km LL rt post px J) {a b : Int} (hdg : decode cc pc = .ok (.lmul, 1)) (kk : J x k (pc + 1) lv (.long (lZ (a * b)) :: rest)) : J x k pc lv (.long (lZ b) :: .long (lZ a) :: rest) := by
  obtain ⟨p, e, s, m, args, below, meth, c, A, ⟨hx, hb, hml, hown, hts⟩, hE, hM, hK, hA, rfl⟩ := hJ
  intro H locs ls hw hl
  refine lv_lmul hx hb hdg ?_
  rw [lZ_mul]
  exact kk H locs ls hw hl
theorem j_ineg (hJ : IsJ l D tys wf cc nL Ts own F km LL rt post px J) {a : Int} (hdg : decode cc pc = .ok (.ineg, 1)) (kk : J x k (pc + 1) lv (.int (iZ (-a)) :: rest)) : J x k pc lv (.int (iZ a) :: rest) := by
  obtain ⟨p, e, s, m, args, below, meth, c, A, ⟨hx, hb, hml, hown, hts⟩, hE, hM, hK, hA, rfl⟩ := hJ
  intro H locs ls hw hl
  refine lv_ineg hx hb hdg ?_
  rw [iZ_neg]
  exact kk H locs ls hw hl
theorem j_idiv (hJ : IsJ l D tys wf cc nL Ts own F km LL rt post px J) {a b : Int} (hne : ¬ b = 0) (ha0 : i32 a) (hb0 : i32 b) (h0 : 0 ≤ a) (hdg : decode cc pc = .ok (.idiv, 1)) (kk : J x k (pc + 1) lv (.int (iZ (a / b)) :: rest)) : J x k pc lv (.int (iZ b) :: .int (iZ a) :: rest) := by
  obtain ⟨p, e, s, m, args, below, meth, c, A, ⟨hx, hb, hml, hown, hts⟩, hE, hM, hK, hA, rfl⟩ := hJ
  intro H locs ls hw hl
  refine lv_idiv hx hb hdg (fun q => hne ((iZ_eq hb0 ⟨by decide, by decide⟩).mp (q.trans (show (0 : Int32) = iZ 0 by decide)))) ?_
  rw [iZ_div ha0 hb0 h0]
  exact kk H locs ls hw hl
theorem j_irem (hJ : IsJ l D tys wf cc nL Ts own F km LL rt post px J) {a b : Int} (hne : ¬ b = 0) (ha0 : i32 a) (hb0 : i32 b) (h0 : 0 ≤ a) (hdg : decode cc pc = .ok (.irem, 1)) (kk : J x k (pc + 1) lv (.int (iZ (a % b)) :: rest)) : J x k pc lv (.int (iZ b) :: .int (iZ a) :: rest) := by
  obtain ⟨p, e, s, m, args, below, meth, c, A, ⟨hx, hb, hml, hown, hts⟩, hE, hM, hK, hA, rfl⟩ := hJ
  intro H locs ls hw hl
  refine lv_irem hx hb hdg (fun q => hne ((iZ_eq hb0 ⟨by decide, by decide⟩).mp (q.trans (show (0 : Int32) = iZ 0 by decide)))) ?_
  rw [iZ_rem ha0 hb0 h0]
  exact kk H locs ls hw hl
theorem j_lneg (hJ : IsJ l D tys wf cc nL Ts own F km LL rt post px J) {a : Int} (hdg : decode cc pc = .ok (.lneg, 1)) (kk : J x k (pc + 1) lv (.long (lZ (-a)) :: rest)) : J x k pc lv (.long (lZ a) :: rest) := by
  obtain ⟨p, e, s, m, args, below, meth, c, A, ⟨hx, hb, hml, hown, hts⟩, hE, hM, hK, hA, rfl⟩ := hJ
  intro H locs ls hw hl
  refine lv_lneg hx hb hdg ?_
  rw [lZ_neg]
  exact kk H locs ls hw hl
theorem j_ldiv (hJ : IsJ l D tys wf cc nL Ts own F km LL rt post px J) {a b : Int} (hne : ¬ b = 0) (ha0 : i64 a) (hb0 : i64 b) (h0 : 0 ≤ a) (hdg : decode cc pc = .ok (.ldiv, 1)) (kk : J x k (pc + 1) lv (.long (lZ (a / b)) :: rest)) : J x k pc lv (.long (lZ b) :: .long (lZ a) :: rest) := by
  obtain ⟨p, e, s, m, args, below, meth, c, A, ⟨hx, hb, hml, hown, hts⟩, hE, hM, hK, hA, rfl⟩ := hJ
  intro H locs ls hw hl
  refine lv_ldiv hx hb hdg (fun q => hne ((lZ_eq hb0 ⟨by decide, by decide⟩).mp (q.trans (show (0 : Int64) = lZ 0 by decide)))) ?_
  rw [lZ_div ha0 hb0 h0]
  exact kk H locs ls hw hl
theorem j_lrem (hJ : IsJ l D tys wf cc nL Ts own F km LL rt post px J) {a b : Int} (hne : ¬ b = 0) (ha0 : i64 a) (hb0 : i64 b) (h0 : 0 ≤ a) (hdg : decode cc pc = .ok (.lrem, 1)) (kk : J x k (pc + 1) lv (.long (lZ (a % b)) :: rest)) : J x k pc lv (.long (lZ b) :: .long (lZ a) :: rest) := by
  obtain ⟨p, e, s, m, args, below, meth, c, A, ⟨hx, hb, hml, hown, hts⟩, hE, hM, hK, hA, rfl⟩ := hJ
  intro H locs ls hw hl
  refine lv_lrem hx hb hdg (fun q => hne ((lZ_eq hb0 ⟨by decide, by decide⟩).mp (q.trans (show (0 : Int64) = lZ 0 by decide)))) ?_
  rw [lZ_rem ha0 hb0 h0]
  exact kk H locs ls hw hl
theorem j_iand (hJ : IsJ l D tys wf cc nL Ts own F km LL rt post px J) {a b z : Int} (hz : iZ a &&& iZ b = iZ z) (hdg : decode cc pc = .ok (.iand, 1)) (kk : J x k (pc + 1) lv (.int (iZ z) :: rest)) : J x k pc lv (.int (iZ b) :: .int (iZ a) :: rest) := by
  obtain ⟨p, e, s, m, args, below, meth, c, A, ⟨hx, hb, hml, hown, hts⟩, hE, hM, hK, hA, rfl⟩ := hJ
  intro H locs ls hw hl
  refine lv_iand hx hb hdg ?_
  rw [hz]
  exact kk H locs ls hw hl
theorem j_ior (hJ : IsJ l D tys wf cc nL Ts own F km LL rt post px J) {a b z : Int} (hz : iZ a ||| iZ b = iZ z) (hdg : decode cc pc = .ok (.ior, 1)) (kk : J x k (pc + 1) lv (.int (iZ z) :: rest)) : J x k pc lv (.int (iZ b) :: .int (iZ a) :: rest) := by
  obtain ⟨p, e, s, m, args, below, meth, c, A, ⟨hx, hb, hml, hown, hts⟩, hE, hM, hK, hA, rfl⟩ := hJ
  intro H locs ls hw hl
  refine lv_ior hx hb hdg ?_
  rw [hz]
  exact kk H locs ls hw hl
theorem j_land (hJ : IsJ l D tys wf cc nL Ts own F km LL rt post px J) {a b z : Int} (hz : lZ a &&& lZ b = lZ z) (hdg : decode cc pc = .ok (.land, 1)) (kk : J x k (pc + 1) lv (.long (lZ z) :: rest)) : J x k pc lv (.long (lZ b) :: .long (lZ a) :: rest) := by
  obtain ⟨p, e, s, m, args, below, meth, c, A, ⟨hx, hb, hml, hown, hts⟩, hE, hM, hK, hA, rfl⟩ := hJ
  intro H locs ls hw hl
  refine lv_land hx hb hdg ?_
  rw [hz]
  exact kk H locs ls hw hl
theorem j_lor (hJ : IsJ l D tys wf cc nL Ts own F km LL rt post px J) {a b z : Int} (hz : lZ a ||| lZ b = lZ z) (hdg : decode cc pc = .ok (.lor, 1)) (kk : J x k (pc + 1) lv (.long (lZ z) :: rest)) : J x k pc lv (.long (lZ b) :: .long (lZ a) :: rest) := by
  obtain ⟨p, e, s, m, args, below, meth, c, A, ⟨hx, hb, hml, hown, hts⟩, hE, hM, hK, hA, rfl⟩ := hJ
  intro H locs ls hw hl
  refine lv_lor hx hb hdg ?_
  rw [hz]
  exact kk H locs ls hw hl
theorem j_ishl (hJ : IsJ l D tys wf cc nL Ts own F km LL rt post px J) {a : Int} {n : Nat} (hn : n < 32) (hdg : decode cc pc = .ok (.ishl, 1)) (kk : J x k (pc + 1) lv (.int (iZ (a * ((2 ^ n : Nat) : Int))) :: rest)) : J x k pc lv (.int (iZ n) :: .int (iZ a) :: rest) := by
  obtain ⟨p, e, s, m, args, below, meth, c, A, ⟨hx, hb, hml, hown, hts⟩, hE, hM, hK, hA, rfl⟩ := hJ
  intro H locs ls hw hl
  refine lv_ishl hx hb hdg ?_
  rw [iZ_shl a hn]
  exact kk H locs ls hw hl
theorem j_ishr (hJ : IsJ l D tys wf cc nL Ts own F km LL rt post px J) {a : Int} {n : Nat} (hn : n < 32) (ha : i32 a) (hdg : decode cc pc = .ok (.ishr, 1)) (kk : J x k (pc + 1) lv (.int (iZ (a / ((2 ^ n : Nat) : Int))) :: rest)) : J x k pc lv (.int (iZ n) :: .int (iZ a) :: rest) := by
  obtain ⟨p, e, s, m, args, below, meth, c, A, ⟨hx, hb, hml, hown, hts⟩, hE, hM, hK, hA, rfl⟩ := hJ
  intro H locs ls hw hl
  refine lv_ishr hx hb hdg ?_
  rw [iZ_shr ha hn]
  exact kk H locs ls hw hl
theorem j_iushr (hJ : IsJ l D tys wf cc nL Ts own F km LL rt post px J) {a : Int} {n : Nat} (hn : n < 32) (hdg : decode cc pc = .ok (.iushr, 1)) (kk : J x k (pc + 1) lv (.int (iZ (a % 4294967296 / ((2 ^ n : Nat) : Int))) :: rest)) : J x k pc lv (.int (iZ n) :: .int (iZ a) :: rest) := by
  obtain ⟨p, e, s, m, args, below, meth, c, A, ⟨hx, hb, hml, hown, hts⟩, hE, hM, hK, hA, rfl⟩ := hJ
  intro H locs ls hw hl
  exact lv_iushr hx hb hdg (iZ_ushr a hn) (kk H locs ls hw hl)
theorem j_lshl (hJ : IsJ l D tys wf cc nL Ts own F km LL rt post px J) {a : Int} {n : Nat} (hn : n < 64) (hdg : decode cc pc = .ok (.lshl, 1)) (kk : J x k (pc + 1) lv (.long (lZ (a * ((2 ^ n : Nat) : Int))) :: rest)) : J x k pc lv (.int (iZ n) :: .long (lZ a) :: rest) := by
  obtain ⟨p, e, s, m, args, below, meth, c, A, ⟨hx, hb, hml, hown, hts⟩, hE, hM, hK, hA, rfl⟩ := hJ
  intro H locs ls hw hl
  exact lv_lshl hx hb hdg (lZ_shl a hn) (kk H locs ls hw hl)
theorem j_lushr (hJ : IsJ l D tys wf cc nL Ts own F km LL rt post px J) {a : Int} {n : Nat} (hn : n < 64) (hdg : decode cc pc = .ok (.lushr, 1)) (kk : J x k (pc + 1) lv (.long (lZ (a % 18446744073709551616 / ((2 ^ n : Nat) : Int))) :: rest)) : J x k pc lv (.int (iZ n) :: .long (lZ a) :: rest) := by
  obtain ⟨p, e, s, m, args, below, meth, c, A, ⟨hx, hb, hml, hown, hts⟩, hE, hM, hK, hA, rfl⟩ := hJ
  intro H locs ls hw hl
  exact lv_lushr hx hb hdg (lZ_ushr a hn) (kk H locs ls hw hl)
theorem j_lshr (hJ : IsJ l D tys wf cc nL Ts own F km LL rt post px J) {a : Int} {n : Nat} (hn : n < 64) (ha : i64 a) (hdg : decode cc pc = .ok (.lshr, 1)) (kk : J x k (pc + 1) lv (.long (lZ (a / ((2 ^ n : Nat) : Int))) :: rest)) : J x k pc lv (.int (iZ n) :: .long (lZ a) :: rest) := by
  obtain ⟨p, e, s, m, args, below, meth, c, A, ⟨hx, hb, hml, hown, hts⟩, hE, hM, hK, hA, rfl⟩ := hJ
  intro H locs ls hw hl
  exact lv_lshr hx hb hdg (lZ_shr ha hn) (kk H locs ls hw hl)
theorem j_i2l (hJ : IsJ l D tys wf cc nL Ts own F km LL rt post px J) {a : Int} (ha : i32 a) (hdg : decode cc pc = .ok (.i2l, 1)) (kk : J x k (pc + 1) lv (.long (lZ a) :: rest)) : J x k pc lv (.int (iZ a) :: rest) := by
  obtain ⟨p, e, s, m, args, below, meth, c, A, ⟨hx, hb, hml, hown, hts⟩, hE, hM, hK, hA, rfl⟩ := hJ
  intro H locs ls hw hl
  exact lv_i2l hx hb hdg (i2lZ ha) (kk H locs ls hw hl)
theorem j_l2i (hJ : IsJ l D tys wf cc nL Ts own F km LL rt post px J) {a : Int} (hdg : decode cc pc = .ok (.l2i, 1)) (kk : J x k (pc + 1) lv (.int (iZ a) :: rest)) : J x k pc lv (.long (lZ a) :: rest) := by
  obtain ⟨p, e, s, m, args, below, meth, c, A, ⟨hx, hb, hml, hown, hts⟩, hE, hM, hK, hA, rfl⟩ := hJ
  intro H locs ls hw hl
  exact lv_l2i hx hb hdg (l2iZ a) (kk H locs ls hw hl)
theorem low_Z (a : Int) : (iZ a).toInt64 &&& lZ 4294967295 = lZ (a % 4294967296) := by
  have h : (iZ a).toInt64 = lZ (iZ a).toInt := by rw [← i2lZ ⟨Int32.le_toInt _, Int32.toInt_lt _⟩, iZ_of]
  rw [h, lZ_low]
  congr 1
  rw [iZ, Int32.toInt_ofInt]
  exact Int.bmod_emod
theorem j_low (hJ : IsJ l D tys wf cc nL Ts own F km LL rt post px J) {i : Nat} {a : Int} (hin : Jvm.Cond.constantLong own i 4294967295 ∈ Ts) (d1 : decode cc pc = .ok (.i2l, 1)) (d2 : decode cc (pc + 1) = .ok (.ldc2_w i, 3)) (d3 : decode cc (pc + 4) = .ok (.land, 1)) (kk : J x k (pc + 5) lv (.long (lZ (a % 4294967296)) :: rest)) : J x k pc lv (.int (iZ a) :: rest) := by
  obtain ⟨p, e, s, m, args, below, meth, c, A, ⟨hx, hb, hml, hown, hts⟩, hE, hM, hK, hA, rfl⟩ := hJ
  intro H locs ls hw hl
  refine lv_i2l hx hb d1 rfl ?_
  refine lv_ldc2 hx hb hown (hts _ hin) d2 ?_
  refine lv_land hx hb d3 ?_
  rw [show (4294967295 : Int64) = lZ 4294967295 by decide, low_Z]
  exact kk H locs ls hw hl
theorem j_dup (hJ : IsJ l D tys wf cc nL Ts own F km LL rt post px J) {v : Value} (hc : v.category = 1) (hdg : decode cc pc = .ok (.dup, 1)) (kk : J x k (pc + 1) lv (v :: v :: rest)) : J x k pc lv (v :: rest) := by
  obtain ⟨p, e, s, m, args, below, meth, c, A, ⟨hx, hb, hml, hown, hts⟩, hE, hM, hK, hA, rfl⟩ := hJ
  intro H locs ls hw hl
  exact lv_dup hx hb hdg hc (kk H locs ls hw hl)
theorem j_dup2 (hJ : IsJ l D tys wf cc nL Ts own F km LL rt post px J) {v u : Value} (hc : v.category = 1) (hd : u.category = 1) (hdg : decode cc pc = .ok (.dup2, 1)) (kk : J x k (pc + 1) lv (v :: u :: v :: u :: rest)) : J x k pc lv (v :: u :: rest) := by
  obtain ⟨p, e, s, m, args, below, meth, c, A, ⟨hx, hb, hml, hown, hts⟩, hE, hM, hK, hA, rfl⟩ := hJ
  intro H locs ls hw hl
  exact lv_dup2_11 hx hb hdg hc hd (kk H locs ls hw hl)
theorem j_goto (hJ : IsJ l D tys wf cc nL Ts own F km LL rt post px J) {off : Int} {tgt : Nat} (ht : (pc : Int) + off = (tgt : Int)) (hdg : decode cc pc = .ok (.goto off, 3)) (kk : J x k tgt lv rest) : J x k pc lv rest := by
  obtain ⟨p, e, s, m, args, below, meth, c, A, ⟨hx, hb, hml, hown, hts⟩, hE, hM, hK, hA, rfl⟩ := hJ
  intro H locs ls hw hl
  exact lv_goto hx hb hdg ht (kk H locs ls hw hl)
theorem j_icmp_eq (hJ : IsJ l D tys wf cc nL Ts own F km LL rt post px J) {a b off : Int} {tgt : Nat} (ht : (pc : Int) + off = (tgt : Int)) (ha : i32 a) (hb0 : i32 b) (hdg : decode cc pc = .ok (.if_icmp .eq off, 3)) (kt : a = b → J x k tgt lv rest) (kf : ¬ a = b → J x k (pc + 3) lv rest) : J x k pc lv (.int (iZ b) :: .int (iZ a) :: rest) := by
  obtain ⟨p, e, s, m, args, below, meth, c, A, ⟨hx, hb, hml, hown, hts⟩, hE, hM, hK, hA, rfl⟩ := hJ
  intro H locs ls hw hl
  exact lv_icmp_eq hx hb hdg ht (fun q => kt ((iZ_eq ha hb0).mp q) H locs ls hw hl) (fun q => kf (fun z => q ((iZ_eq ha hb0).mpr z)) H locs ls hw hl)
theorem j_if_eq (hJ : IsJ l D tys wf cc nL Ts own F km LL rt post px J) {a off : Int} {tgt : Nat} (ht : (pc : Int) + off = (tgt : Int)) (ha : i32 a) (hdg : decode cc pc = .ok (.ifCond .eq off, 3)) (kt : a = 0 → J x k tgt lv rest) (kf : ¬ a = 0 → J x k (pc + 3) lv rest) : J x k pc lv (.int (iZ a) :: rest) := by
  obtain ⟨p, e, s, m, args, below, meth, c, A, ⟨hx, hb, hml, hown, hts⟩, hE, hM, hK, hA, rfl⟩ := hJ
  intro H locs ls hw hl
  have hb0 : i32 0 := ⟨by decide, by decide⟩
  exact lv_if_eq hx hb hdg ht (fun q => kt (by rw [iZ_0] at q; exact (iZ_eq ha hb0).mp q) H locs ls hw hl) (fun q => kf (by rw [iZ_0] at q; exact fun z => q ((iZ_eq ha hb0).mpr z)) H locs ls hw hl)
theorem j_lcmp_eq (hJ : IsJ l D tys wf cc nL Ts own F km LL rt post px J) {a b off : Int} {tgt : Nat} (ht : ((pc + 1 : Nat) : Int) + off = (tgt : Int)) (ha : i64 a) (hb0 : i64 b) (d1 : decode cc pc = .ok (.lcmp, 1)) (hdg : decode cc (pc + 1) = .ok (.ifCond .eq off, 3)) (kt : a = b → J x k tgt lv rest) (kf : ¬ a = b → J x k (pc + 4) lv rest) : J x k pc lv (.long (lZ b) :: .long (lZ a) :: rest) := by
  obtain ⟨p, e, s, m, args, below, meth, c, A, ⟨hx, hb, hml, hown, hts⟩, hE, hM, hK, hA, rfl⟩ := hJ
  intro H locs ls hw hl
  refine W.lcmp hx hb d1 ?_
  rw [lg_Z ha hb0]
  have hs := cz_spec a b
  generalize cz a b = z at hs ⊢
  have hc : i32 z := ⟨by omega, by omega⟩
  have hz : i32 0 := ⟨by decide, by decide⟩
  refine lv_if_eq hx hb hdg ht (fun q => kt ?_ H locs ls hw hl) (fun q => kf ?_ H locs ls hw hl)
  · rw [iZ_0] at q
    have q2 := (iZ_eq hc hz).mp q
    omega
  · rw [iZ_0] at q
    have q2 := (show ¬ z = 0 from fun z => q ((iZ_eq hc hz).mpr z))
    omega
theorem j_icmp_ne (hJ : IsJ l D tys wf cc nL Ts own F km LL rt post px J) {a b off : Int} {tgt : Nat} (ht : (pc : Int) + off = (tgt : Int)) (ha : i32 a) (hb0 : i32 b) (hdg : decode cc pc = .ok (.if_icmp .ne off, 3)) (kt : ¬ a = b → J x k tgt lv rest) (kf : a = b → J x k (pc + 3) lv rest) : J x k pc lv (.int (iZ b) :: .int (iZ a) :: rest) := by
  obtain ⟨p, e, s, m, args, below, meth, c, A, ⟨hx, hb, hml, hown, hts⟩, hE, hM, hK, hA, rfl⟩ := hJ
  intro H locs ls hw hl
  exact lv_icmp_ne hx hb hdg ht (fun q => kt (fun z => q ((iZ_eq ha hb0).mpr z)) H locs ls hw hl) (fun q => kf ((iZ_eq ha hb0).mp q) H locs ls hw hl)
theorem j_if_ne (hJ : IsJ l D tys wf cc nL Ts own F km LL rt post px J) {a off : Int} {tgt : Nat} (ht : (pc : Int) + off = (tgt : Int)) (ha : i32 a) (hdg : decode cc pc = .ok (.ifCond .ne off, 3)) (kt : ¬ a = 0 → J x k tgt lv rest) (kf : a = 0 → J x k (pc + 3) lv rest) : J x k pc lv (.int (iZ a) :: rest) := by
  obtain ⟨p, e, s, m, args, below, meth, c, A, ⟨hx, hb, hml, hown, hts⟩, hE, hM, hK, hA, rfl⟩ := hJ
  intro H locs ls hw hl
  have hb0 : i32 0 := ⟨by decide, by decide⟩
  exact lv_if_ne hx hb hdg ht (fun q => kt (by rw [iZ_0] at q; exact fun z => q ((iZ_eq ha hb0).mpr z)) H locs ls hw hl) (fun q => kf (by rw [iZ_0] at q; exact (iZ_eq ha hb0).mp q) H locs ls hw hl)
theorem j_lcmp_ne (hJ : IsJ l D tys wf cc nL Ts own F km LL rt post px J) {a b off : Int} {tgt : Nat} (ht : ((pc + 1 : Nat) : Int) + off = (tgt : Int)) (ha : i64 a) (hb0 : i64 b) (d1 : decode cc pc = .ok (.lcmp, 1)) (hdg : decode cc (pc + 1) = .ok (.ifCond .ne off, 3)) (kt : ¬ a = b → J x k tgt lv rest) (kf : a = b → J x k (pc + 4) lv rest) : J x k pc lv (.long (lZ b) :: .long (lZ a) :: rest) := by
  obtain ⟨p, e, s, m, args, below, meth, c, A, ⟨hx, hb, hml, hown, hts⟩, hE, hM, hK, hA, rfl⟩ := hJ
  intro H locs ls hw hl
  refine W.lcmp hx hb d1 ?_
  rw [lg_Z ha hb0]
  have hs := cz_spec a b
  generalize cz a b = z at hs ⊢
  have hc : i32 z := ⟨by omega, by omega⟩
  have hz : i32 0 := ⟨by decide, by decide⟩
  refine lv_if_ne hx hb hdg ht (fun q => kt ?_ H locs ls hw hl) (fun q => kf ?_ H locs ls hw hl)
  · rw [iZ_0] at q
    have q2 := (show ¬ z = 0 from fun z => q ((iZ_eq hc hz).mpr z))
    omega
  · rw [iZ_0] at q
    have q2 := (iZ_eq hc hz).mp q
    omega
theorem j_icmp_lt (hJ : IsJ l D tys wf cc nL Ts own F km LL rt post px J) {a b off : Int} {tgt : Nat} (ht : (pc : Int) + off = (tgt : Int)) (ha : i32 a) (hb0 : i32 b) (hdg : decode cc pc = .ok (.if_icmp .lt off, 3)) (kt : a < b → J x k tgt lv rest) (kf : b ≤ a → J x k (pc + 3) lv rest) : J x k pc lv (.int (iZ b) :: .int (iZ a) :: rest) := by
  obtain ⟨p, e, s, m, args, below, meth, c, A, ⟨hx, hb, hml, hown, hts⟩, hE, hM, hK, hA, rfl⟩ := hJ
  intro H locs ls hw hl
  exact lv_icmp_lt hx hb hdg ht (fun q => kt ((iZ_lt ha hb0).mp q) H locs ls hw hl) (fun q => kf (Int.not_lt.mp (fun z => q ((iZ_lt ha hb0).mpr z))) H locs ls hw hl)
theorem j_if_lt (hJ : IsJ l D tys wf cc nL Ts own F km LL rt post px J) {a off : Int} {tgt : Nat} (ht : (pc : Int) + off = (tgt : Int)) (ha : i32 a) (hdg : decode cc pc = .ok (.ifCond .lt off, 3)) (kt : a < 0 → J x k tgt lv rest) (kf : 0 ≤ a → J x k (pc + 3) lv rest) : J x k pc lv (.int (iZ a) :: rest) := by
  obtain ⟨p, e, s, m, args, below, meth, c, A, ⟨hx, hb, hml, hown, hts⟩, hE, hM, hK, hA, rfl⟩ := hJ
  intro H locs ls hw hl
  have hb0 : i32 0 := ⟨by decide, by decide⟩
  exact lv_if_lt hx hb hdg ht (fun q => kt (by rw [iZ_0] at q; exact (iZ_lt ha hb0).mp q) H locs ls hw hl) (fun q => kf (by rw [iZ_0] at q; exact Int.not_lt.mp (fun z => q ((iZ_lt ha hb0).mpr z))) H locs ls hw hl)
theorem j_lcmp_lt (hJ : IsJ l D tys wf cc nL Ts own F km LL rt post px J) {a b off : Int} {tgt : Nat} (ht : ((pc + 1 : Nat) : Int) + off = (tgt : Int)) (ha : i64 a) (hb0 : i64 b) (d1 : decode cc pc = .ok (.lcmp, 1)) (hdg : decode cc (pc + 1) = .ok (.ifCond .lt off, 3)) (kt : a < b → J x k tgt lv rest) (kf : b ≤ a → J x k (pc + 4) lv rest) : J x k pc lv (.long (lZ b) :: .long (lZ a) :: rest) := by
  obtain ⟨p, e, s, m, args, below, meth, c, A, ⟨hx, hb, hml, hown, hts⟩, hE, hM, hK, hA, rfl⟩ := hJ
  intro H locs ls hw hl
  refine W.lcmp hx hb d1 ?_
  rw [lg_Z ha hb0]
  have hs := cz_spec a b
  generalize cz a b = z at hs ⊢
  have hc : i32 z := ⟨by omega, by omega⟩
  have hz : i32 0 := ⟨by decide, by decide⟩
  refine lv_if_lt hx hb hdg ht (fun q => kt ?_ H locs ls hw hl) (fun q => kf ?_ H locs ls hw hl)
  · rw [iZ_0] at q
    have q2 := (iZ_lt hc hz).mp q
    omega
  · rw [iZ_0] at q
    have q2 := Int.not_lt.mp (fun z => q ((iZ_lt hc hz).mpr z))
    omega
theorem j_icmp_ge (hJ : IsJ l D tys wf cc nL Ts own F km LL rt post px J) {a b off : Int} {tgt : Nat} (ht : (pc : Int) + off = (tgt : Int)) (ha : i32 a) (hb0 : i32 b) (hdg : decode cc pc = .ok (.if_icmp .ge off, 3)) (kt : b ≤ a → J x k tgt lv rest) (kf : a < b → J x k (pc + 3) lv rest) : J x k pc lv (.int (iZ b) :: .int (iZ a) :: rest) := by
  obtain ⟨p, e, s, m, args, below, meth, c, A, ⟨hx, hb, hml, hown, hts⟩, hE, hM, hK, hA, rfl⟩ := hJ
  intro H locs ls hw hl
  exact lv_icmp_ge hx hb hdg ht (fun q => kt ((iZ_le hb0 ha).mp q) H locs ls hw hl) (fun q => kf (Int.not_le.mp (fun z => q ((iZ_le hb0 ha).mpr z))) H locs ls hw hl)
theorem j_if_ge (hJ : IsJ l D tys wf cc nL Ts own F km LL rt post px J) {a off : Int} {tgt : Nat} (ht : (pc : Int) + off = (tgt : Int)) (ha : i32 a) (hdg : decode cc pc = .ok (.ifCond .ge off, 3)) (kt : 0 ≤ a → J x k tgt lv rest) (kf : a < 0 → J x k (pc + 3) lv rest) : J x k pc lv (.int (iZ a) :: rest) := by
  obtain ⟨p, e, s, m, args, below, meth, c, A, ⟨hx, hb, hml, hown, hts⟩, hE, hM, hK, hA, rfl⟩ := hJ
  intro H locs ls hw hl
  have hb0 : i32 0 := ⟨by decide, by decide⟩
  exact lv_if_ge hx hb hdg ht (fun q => kt (by rw [iZ_0] at q; exact (iZ_le hb0 ha).mp q) H locs ls hw hl) (fun q => kf (by rw [iZ_0] at q; exact Int.not_le.mp (fun z => q ((iZ_le hb0 ha).mpr z))) H locs ls hw hl)
theorem j_lcmp_ge (hJ : IsJ l D tys wf cc nL Ts own F km LL rt post px J) {a b off : Int} {tgt : Nat} (ht : ((pc + 1 : Nat) : Int) + off = (tgt : Int)) (ha : i64 a) (hb0 : i64 b) (d1 : decode cc pc = .ok (.lcmp, 1)) (hdg : decode cc (pc + 1) = .ok (.ifCond .ge off, 3)) (kt : b ≤ a → J x k tgt lv rest) (kf : a < b → J x k (pc + 4) lv rest) : J x k pc lv (.long (lZ b) :: .long (lZ a) :: rest) := by
  obtain ⟨p, e, s, m, args, below, meth, c, A, ⟨hx, hb, hml, hown, hts⟩, hE, hM, hK, hA, rfl⟩ := hJ
  intro H locs ls hw hl
  refine W.lcmp hx hb d1 ?_
  rw [lg_Z ha hb0]
  have hs := cz_spec a b
  generalize cz a b = z at hs ⊢
  have hc : i32 z := ⟨by omega, by omega⟩
  have hz : i32 0 := ⟨by decide, by decide⟩
  refine lv_if_ge hx hb hdg ht (fun q => kt ?_ H locs ls hw hl) (fun q => kf ?_ H locs ls hw hl)
  · rw [iZ_0] at q
    have q2 := (iZ_le hz hc).mp q
    omega
  · rw [iZ_0] at q
    have q2 := Int.not_le.mp (fun z => q ((iZ_le hz hc).mpr z))
    omega
theorem j_icmp_gt (hJ : IsJ l D tys wf cc nL Ts own F km LL rt post px J) {a b off : Int} {tgt : Nat} (ht : (pc : Int) + off = (tgt : Int)) (ha : i32 a) (hb0 : i32 b) (hdg : decode cc pc = .ok (.if_icmp .gt off, 3)) (kt : b < a → J x k tgt lv rest) (kf : a ≤ b → J x k (pc + 3) lv rest) : J x k pc lv (.int (iZ b) :: .int (iZ a) :: rest) := by
  obtain ⟨p, e, s, m, args, below, meth, c, A, ⟨hx, hb, hml, hown, hts⟩, hE, hM, hK, hA, rfl⟩ := hJ
  intro H locs ls hw hl
  exact lv_icmp_gt hx hb hdg ht (fun q => kt ((iZ_lt hb0 ha).mp q) H locs ls hw hl) (fun q => kf (Int.not_lt.mp (fun z => q ((iZ_lt hb0 ha).mpr z))) H locs ls hw hl)
theorem j_if_gt (hJ : IsJ l D tys wf cc nL Ts own F km LL rt post px J) {a off : Int} {tgt : Nat} (ht : (pc : Int) + off = (tgt : Int)) (ha : i32 a) (hdg : decode cc pc = .ok (.ifCond .gt off, 3)) (kt : 0 < a → J x k tgt lv rest) (kf : a ≤ 0 → J x k (pc + 3) lv rest) : J x k pc lv (.int (iZ a) :: rest) := by
  obtain ⟨p, e, s, m, args, below, meth, c, A, ⟨hx, hb, hml, hown, hts⟩, hE, hM, hK, hA, rfl⟩ := hJ
  intro H locs ls hw hl
  have hb0 : i32 0 := ⟨by decide, by decide⟩
  exact lv_if_gt hx hb hdg ht (fun q => kt (by rw [iZ_0] at q; exact (iZ_lt hb0 ha).mp q) H locs ls hw hl) (fun q => kf (by rw [iZ_0] at q; exact Int.not_lt.mp (fun z => q ((iZ_lt hb0 ha).mpr z))) H locs ls hw hl)
theorem j_lcmp_gt (hJ : IsJ l D tys wf cc nL Ts own F km LL rt post px J) {a b off : Int} {tgt : Nat} (ht : ((pc + 1 : Nat) : Int) + off = (tgt : Int)) (ha : i64 a) (hb0 : i64 b) (d1 : decode cc pc = .ok (.lcmp, 1)) (hdg : decode cc (pc + 1) = .ok (.ifCond .gt off, 3)) (kt : b < a → J x k tgt lv rest) (kf : a ≤ b → J x k (pc + 4) lv rest) : J x k pc lv (.long (lZ b) :: .long (lZ a) :: rest) := by
  obtain ⟨p, e, s, m, args, below, meth, c, A, ⟨hx, hb, hml, hown, hts⟩, hE, hM, hK, hA, rfl⟩ := hJ
  intro H locs ls hw hl
  refine W.lcmp hx hb d1 ?_
  rw [lg_Z ha hb0]
  have hs := cz_spec a b
  generalize cz a b = z at hs ⊢
  have hc : i32 z := ⟨by omega, by omega⟩
  have hz : i32 0 := ⟨by decide, by decide⟩
  refine lv_if_gt hx hb hdg ht (fun q => kt ?_ H locs ls hw hl) (fun q => kf ?_ H locs ls hw hl)
  · rw [iZ_0] at q
    have q2 := (iZ_lt hz hc).mp q
    omega
  · rw [iZ_0] at q
    have q2 := Int.not_lt.mp (fun z => q ((iZ_lt hz hc).mpr z))
    omega
theorem j_icmp_le (hJ : IsJ l D tys wf cc nL Ts own F km LL rt post px J) {a b off : Int} {tgt : Nat} (ht : (pc : Int) + off = (tgt : Int)) (ha : i32 a) (hb0 : i32 b) (hdg : decode cc pc = .ok (.if_icmp .le off, 3)) (kt : a ≤ b → J x k tgt lv rest) (kf : b < a → J x k (pc + 3) lv rest) : J x k pc lv (.int (iZ b) :: .int (iZ a) :: rest) := by
  obtain ⟨p, e, s, m, args, below, meth, c, A, ⟨hx, hb, hml, hown, hts⟩, hE, hM, hK, hA, rfl⟩ := hJ
  intro H locs ls hw hl
  exact lv_icmp_le hx hb hdg ht (fun q => kt ((iZ_le ha hb0).mp q) H locs ls hw hl) (fun q => kf (Int.not_le.mp (fun z => q ((iZ_le ha hb0).mpr z))) H locs ls hw hl)
theorem j_if_le (hJ : IsJ l D tys wf cc nL Ts own F km LL rt post px J) {a off : Int} {tgt : Nat} (ht : (pc : Int) + off = (tgt : Int)) (ha : i32 a) (hdg : decode cc pc = .ok (.ifCond .le off, 3)) (kt : a ≤ 0 → J x k tgt lv rest) (kf : 0 < a → J x k (pc + 3) lv rest) : J x k pc lv (.int (iZ a) :: rest) := by
  obtain ⟨p, e, s, m, args, below, meth, c, A, ⟨hx, hb, hml, hown, hts⟩, hE, hM, hK, hA, rfl⟩ := hJ
  intro H locs ls hw hl
  have hb0 : i32 0 := ⟨by decide, by decide⟩
  exact lv_if_le hx hb hdg ht (fun q => kt (by rw [iZ_0] at q; exact (iZ_le ha hb0).mp q) H locs ls hw hl) (fun q => kf (by rw [iZ_0] at q; exact Int.not_le.mp (fun z => q ((iZ_le ha hb0).mpr z))) H locs ls hw hl)
theorem j_lcmp_le (hJ : IsJ l D tys wf cc nL Ts own F km LL rt post px J) {a b off : Int} {tgt : Nat} (ht : ((pc + 1 : Nat) : Int) + off = (tgt : Int)) (ha : i64 a) (hb0 : i64 b) (d1 : decode cc pc = .ok (.lcmp, 1)) (hdg : decode cc (pc + 1) = .ok (.ifCond .le off, 3)) (kt : a ≤ b → J x k tgt lv rest) (kf : b < a → J x k (pc + 4) lv rest) : J x k pc lv (.long (lZ b) :: .long (lZ a) :: rest) := by
  obtain ⟨p, e, s, m, args, below, meth, c, A, ⟨hx, hb, hml, hown, hts⟩, hE, hM, hK, hA, rfl⟩ := hJ
  intro H locs ls hw hl
  refine W.lcmp hx hb d1 ?_
  rw [lg_Z ha hb0]
  have hs := cz_spec a b
  generalize cz a b = z at hs ⊢
  have hc : i32 z := ⟨by omega, by omega⟩
  have hz : i32 0 := ⟨by decide, by decide⟩
  refine lv_if_le hx hb hdg ht (fun q => kt ?_ H locs ls hw hl) (fun q => kf ?_ H locs ls hw hl)
  · rw [iZ_0] at q
    have q2 := (iZ_le hc hz).mp q
    omega
  · rw [iZ_0] at q
    have q2 := Int.not_le.mp (fun z => q ((iZ_le hc hz).mpr z))
    omega
end RW
