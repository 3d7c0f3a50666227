/-! the law's entry -/
theorem exW_tbl : ∀ w ∈ exW, w ∈ lw_tbl := by decide +kernel
theorem whole_start {p : Program} {e : Env} {s : State} {m : MethodId} {below : List Frame} {meth : Method} {c : Code} (l : Launch) (hl0 : l.stackTraces = false) {b L : Nat} {xs : Nat → Int32} (hL : L ≤ 2560) (C0 : lw_At p s m meth c b L xs) : W p l e room_1 s m #[Value.ref b] below meth c s.heap [] 0 0 (lw_Z below #[Value.ref b] s) (entryFrame m ([Value.ref b] : List Value).toArray 7) := by
  obtain ⟨hx, hb, hr, hml, hown, hts, hX, hbl, hlocks, hgv⟩ := C0
  have hq := flat_of_before _ hgv
  obtain ⟨c0, iS0, hKn0⟩ := u_known (C := RX0) (T := TX0) (N := 6) (n := 6) hts inX0 (hts (.instantiable RX0 6) (by decide +kernel))
  obtain ⟨c1, iS1, hKn1⟩ := u_known (C := RX1) (T := TX1) (N := 3) (n := 3) hts inX1 (hts (.instantiable RX1 3) (by decide +kernel))
  obtain ⟨dC, dI, hKc⟩ : ∃ (dC : Nat → ClassId) (dI : Nat → Nat → Nat), ∀ (k : Nat) (q : vw_C), vwCl[k]? = some q → u_Kn s q.1 q.2.1 q.2.2 (dC k) (dI k) := by
    refine ⟨fun k => if k = 0 then c0 else c1, fun k => if k = 0 then iS0 else iS1, ?_⟩
    intro k q hq
    match k, hq with
    | 0, hq => cases hq; exact hKn0
    | 1, hq => cases hq; exact hKn1
    | k + 2, hq => simp [vwCl] at hq
  obtain ⟨cI, kI, compI, i1, i2, i3⟩ := Cond.arrayClass_spec (hts (.arrayClass .int) (by decide +kernel))
  obtain ⟨cL, kL, compL, l1, l2, l3⟩ := Cond.arrayClass_spec (hts (.arrayClass .long) (by decide +kernel))
  have hao := hts (.arrayOver (.array .int)) (by decide +kernel)
  obtain ⟨comp, cO, kO, o1, o2, o3, o4, o5⟩ := Jvm.Stand.arrayOver_specB hao
  have hK : va_K (dC, dI) vwCl (tL cI cO cL) s := by
    refine ⟨hKc, ?_⟩
    intro k q hq
    match k, hq with
    | 0, hq => cases hq; exact ⟨fun n z => ⟨fun k h => (by cases h), kI, i2, compI, i3⟩, i1⟩
    | 1, hq => cases hq; exact ⟨fun n z => ⟨fun k h => (by cases h), kO, o3, comp, o4⟩, o5⟩
    | 2, hq => cases hq; exact ⟨fun n z => ⟨fun k h => (by cases h), kL, l2, compL, l3⟩, l1⟩
    | k + 3, hq => simp at hq
  have hnA : ∀ a : Nat, a < s.heap.size → ¬ (fun q : Nat => s.heap.size ≤ q) a := fun a h => Nat.not_le.mpr h
  have hX0c : s.vm.findClass RX0 = some c0 := hKn0.2.1
  have hE : exZ (fun q : Nat => s.heap.size ≤ q) s s.heap := by
    refine ⟨vx_Zqof (hts _ (by decide +kernel)) (hts _ (by decide +kernel)) (hq _ (by decide +kernel)) hnA, vx_Zqof (hts _ (by decide +kernel)) (hts _ (by decide +kernel)) (hq _ (by decide +kernel)) hnA, fun w hw => va_tabs (exW_ok w hw).2 rfl (hts w (exW_tbl w hw)), ?_⟩
    have key : ∀ q ∈ exT, (Cond.stringRef RX0 q.1 q.2).before #[Value.ref b] s = true := by
      intro q hq9
      simp only [exT, List.mem_cons, List.not_mem_nil, or_false] at hq9
      rcases hq9 with rfl | rfl | rfl | rfl | rfl | rfl | rfl <;> exact hts _ (by decide +kernel)
    intro q hq9
    have h1 := key q hq9
    obtain ⟨k, cf, i, a, -, -, -, -, -, hev⟩ := Cond.stringRef_spec hX0c h1
    exact ⟨a, vk_R.of h1 hev⟩
  have hE2 : eX2 s := ⟨Jvm.Stand.arrayOver_alikeB (Vm.Alike.refl s.vm) hao, va_Nc.of (hq _ (by decide +kernel)), va_Nc.of (hq _ (by decide +kernel))⟩
  have hJ : IsG l (dC, dI) (tL cI cO cL) cL_law 7 wsL_law RL room_1 (XL b L xs) (Jd p l e room_1 s m #[Value.ref b] below meth c (lw_Z below #[Value.ref b] s) (dC, dI) [] wI (fun q : Nat => s.heap.size ≤ q) 7) :=
    ⟨p, e, s, m, #[Value.ref b], below, meth, c, _, _, ⟨hx, hb, hml, hown, fun w hw => hts w (wsL_law_in w hw)⟩, hE, hE2, hK, fun _ h => h, ⟨hX, hbl, hnA b hbl, hr, hlocks, rfl, fun _ h => h, rfl⟩, rfl⟩
  have hl := lv_entry [Value.ref b] (show (lg_sl [Value.ref b]).length ≤ 7 from Nat.le_of_ble_eq_true rfl)
  rw [lg_entry_eq]
  exact law_run hJ hl0 hL s.heap [] _ ⟨fun k q h => by simp [wI] at h, ⟨fun i j p q h => by simp [wI] at h, fun k q h => by simp [wI] at h⟩, va_S.rf⟩ hl
