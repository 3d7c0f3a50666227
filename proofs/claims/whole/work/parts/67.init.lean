theorem lenr_0 (n : Nat) : lenr (fun _ => 0) n = 0 := (lenr_0iff (B := 2) (by decide) (fun _ _ => ⟨Int.le_refl 0, by decide⟩)).mpr (vs_zero (fun _ _ => rfl))
theorem XI_0 : XI (fun _ _ => 0) (fun _ => 0) := by
  refine ⟨⟨fun _ _ => ⟨Int.le_refl 0, show (0 : Int) < 4294967296 by decide⟩, fun _ _ => ⟨Int.le_refl 0, show (0 : Int) < 4294967296 by decide⟩, fun _ _ => ⟨Int.le_refl 0, show (0 : Int) < 4294967296 by decide⟩⟩, fun r _ => ⟨fun _ _ => ⟨Int.le_refl 0, show (0 : Int) < 4294967296 by decide⟩, vs_zero (fun _ _ => rfl), rfl, ?_⟩⟩
  show (0 : Int) = ((lenr (fun _ => 0) 512 : Nat) : Int)
  rw [lenr_0]; rfl
theorem MI_0 : MI (fun _ _ => 0) (fun _ => 0) := by
  refine ⟨fun j _ i _ => ⟨Int.le_refl 0, show (0 : Int) < 65536 by decide⟩, fun i _ => ⟨vs_zero (fun _ _ => rfl), rfl, ?_⟩⟩
  unfold LIM
  exact Int.pow_pos (by decide)
def mkA (b q q1 q2 q3 q4 q5 : Nat) (r : Nat → Nat) : Nat → Nat := fun i => match i with
  | 0 => b
  | 1 => q
  | 2 => q1
  | 3 => q2
  | 4 => q3
  | 5 => q4
  | 6 => q5
  | n + 7 => r n
theorem wX_mk (cI cO : ClassId) (b q q1 q2 q3 q4 q5 : Nat) (r : Nat → Nat) : ((b, .inr (0, [.ref q, .ref q1, .ref q2, .ref q3, .ref q4, .ref q5])) :: [(q, .inl (cO, 12, .inr (.inr (.inr (.inr (fun i => some (r i))))))), (q1, .inl (cI, 12, .inl (fun _ => iZ 0))), (q2, .inl (cI, 12, .inl (fun _ => iZ 0))), (q3, .inl (cI, 513, .inl (fun _ => iZ 0))), (q4, .inl (cI, 514, .inl (fun _ => iZ 0))), (q5, .inl (cI, 513, .inl (fun _ => iZ 0)))]) ++ (List.range 12).map (fun i => ((r i, .inl (cI, 512, .inl (fun _ => iZ 0))) : Nat × va_E)) = wX cI cO (mkA b q q1 q2 q3 q4 q5 r) (fun _ _ => 0) := by
  rfl
section CTR
variable (l : Launch) (D : va_G) (cI cO : ClassId)
set_option maxRecDepth 20000 in
theorem kX0_init (b : Nat) : CtI l D (tX cI cO) yX0_init wsX0_init 1 1400 30 [.ref b] [(b, .inr (0, [.null, .null, .null, .null, .null, .null]))] (fun v w' => v = none ∧ ∃ a : Nat → Nat, a 0 = b ∧ w' = wX cI cO a (fun _ _ => 0)) := by
  refine CtI.of (cc := cX0_init) (maxL := 1) (own := RX0) rfl rfl (by decide) rfl (Nat.le_of_ble_eq_true rfl) (fun J hJ => ?_)
  have hin : ∀ w ∈ u_ws RX0 TX0 6, w ∈ wsX0_init := fun _ h => List.mem_cons_of_mem _ (List.mem_append_right _ h)
  refine g_aload_n hJ dX0_init_0 rfl ?_
  refine c_obj hJ (by decide +kernel) (by decide +kernel) (by decide +kernel) (Nat.le_of_ble_eq_true rfl) (Nat.le_of_ble_eq_true rfl) dX0_init_1 ?_
  refine g_aload_n hJ dX0_init_4 rfl ?_
  refine g_bipush hJ (by decide) dX0_init_5 ?_
  refine g_sipush hJ (by decide) dX0_init_7 ?_
  refine c_mna (cI := cI) (cO := cO) (t0 := 0) (t1 := 1) (kc := 1100) hJ rfl rfl (by decide +kernel) (by decide +kernel) (Nat.le_of_ble_eq_true rfl) (Nat.le_of_ble_eq_true rfl) (by decide) (by decide) dX0_init_10 (fun q r => ?_)
  refine c_putF (C := RX0) (T := TX0) (N := 6) (index := 11) (kf := 0) (v := .ref q) hJ hin tyX0 tyX0_ok nmX0 rfl (by decide) (by decide +kernel) rfl rfl rfl (tyX0_ok 0 (by decide)) rfl rfl (Nat.le_of_ble_eq_true rfl) dX0_init_14 ?_
  refine g_aload_n hJ dX0_init_17 rfl ?_
  refine g_bipush hJ (by decide) dX0_init_18 ?_
  refine c_newi (cI := cI) (t0 := 0) (kc := 3) (N := 12) hJ rfl (by decide +kernel) rfl (by decide) (Nat.le_of_ble_eq_true rfl) (Nat.le_of_ble_eq_true rfl) (by decide) (by decide) dX0_init_20 (fun q1 => ?_)
  refine c_putF (C := RX0) (T := TX0) (N := 6) (index := 14) (kf := 1) (v := .ref q1) hJ hin tyX0 tyX0_ok nmX0 rfl (by decide) (by decide +kernel) rfl rfl rfl (tyX0_ok 1 (by decide)) rfl rfl (Nat.le_of_ble_eq_true rfl) dX0_init_22 ?_
  refine g_aload_n hJ dX0_init_25 rfl ?_
  refine g_bipush hJ (by decide) dX0_init_26 ?_
  refine c_newi (cI := cI) (t0 := 0) (kc := 3) (N := 12) hJ rfl (by decide +kernel) rfl (by decide) (Nat.le_of_ble_eq_true rfl) (Nat.le_of_ble_eq_true rfl) (by decide) (by decide) dX0_init_28 (fun q2 => ?_)
  refine c_putF (C := RX0) (T := TX0) (N := 6) (index := 18) (kf := 2) (v := .ref q2) hJ hin tyX0 tyX0_ok nmX0 rfl (by decide) (by decide +kernel) rfl rfl rfl (tyX0_ok 2 (by decide)) rfl rfl (Nat.le_of_ble_eq_true rfl) dX0_init_30 ?_
  refine g_aload_n hJ dX0_init_33 rfl ?_
  refine g_sipush hJ (by decide) dX0_init_34 ?_
  refine c_newi (cI := cI) (t0 := 0) (kc := 90) (N := 513) hJ rfl (by decide +kernel) rfl (by decide) (Nat.le_of_ble_eq_true rfl) (Nat.le_of_ble_eq_true rfl) (by decide) (by decide) dX0_init_37 (fun q3 => ?_)
  refine c_putF (C := RX0) (T := TX0) (N := 6) (index := 21) (kf := 3) (v := .ref q3) hJ hin tyX0 tyX0_ok nmX0 rfl (by decide) (by decide +kernel) rfl rfl rfl (tyX0_ok 3 (by decide)) rfl rfl (Nat.le_of_ble_eq_true rfl) dX0_init_39 ?_
  refine g_aload_n hJ dX0_init_42 rfl ?_
  refine g_sipush hJ (by decide) dX0_init_43 ?_
  refine c_newi (cI := cI) (t0 := 0) (kc := 90) (N := 514) hJ rfl (by decide +kernel) rfl (by decide) (Nat.le_of_ble_eq_true rfl) (Nat.le_of_ble_eq_true rfl) (by decide) (by decide) dX0_init_46 (fun q4 => ?_)
  refine c_putF (C := RX0) (T := TX0) (N := 6) (index := 24) (kf := 4) (v := .ref q4) hJ hin tyX0 tyX0_ok nmX0 rfl (by decide) (by decide +kernel) rfl rfl rfl (tyX0_ok 4 (by decide)) rfl rfl (Nat.le_of_ble_eq_true rfl) dX0_init_48 ?_
  refine g_aload_n hJ dX0_init_51 rfl ?_
  refine g_sipush hJ (by decide) dX0_init_52 ?_
  refine c_newi (cI := cI) (t0 := 0) (kc := 90) (N := 513) hJ rfl (by decide +kernel) rfl (by decide) (Nat.le_of_ble_eq_true rfl) (Nat.le_of_ble_eq_true rfl) (by decide) (by decide) dX0_init_55 (fun q5 => ?_)
  refine c_putF (C := RX0) (T := TX0) (N := 6) (index := 27) (kf := 5) (v := .ref q5) hJ hin tyX0 tyX0_ok nmX0 rfl (by decide) (by decide +kernel) rfl rfl rfl (tyX0_ok 5 (by decide)) rfl rfl (Nat.le_of_ble_eq_true rfl) dX0_init_57 ?_
  exact c_vret hJ (Nat.le_of_ble_eq_true rfl) ⟨rfl, mkA b q q1 q2 q3 q4 q5 r, rfl, wX_mk cI cO b q q1 q2 q3 q4 q5 r⟩ dX0_init_60
set_option maxRecDepth 20000 in
theorem kX1_init (b : Nat) : CtI l D (tM cI) yX1_init wsX1_init 1 5610 30 [.ref b] [(b, .inr (1, [.int (iZ 0), .null, .null]))] (fun v w' => v = none ∧ ∃ a : Nat → Nat, a 0 = b ∧ w' = wM cI a (fun _ _ => 0)) := by
  refine CtI.of (cc := cX1_init) (maxL := 1) (own := RX1) rfl rfl (by decide) rfl (Nat.le_of_ble_eq_true rfl) (fun J hJ => ?_)
  have hin : ∀ w ∈ u_ws RX1 TX1 3, w ∈ wsX1_init := fun _ h => List.mem_cons_of_mem _ (List.mem_append_right _ h)
  refine g_aload_n hJ dX1_init_0 rfl ?_
  refine c_obj hJ (by decide +kernel) (by decide +kernel) (by decide +kernel) (Nat.le_of_ble_eq_true rfl) (Nat.le_of_ble_eq_true rfl) dX1_init_1 ?_
  refine g_aload_n hJ dX1_init_4 rfl ?_
  refine g_bipush hJ (by decide) dX1_init_5 ?_
  refine c_newi (ww := []) (rows := []) (cI := cI) (t0 := 0) (kc := 3) (N := 16) hJ rfl (by decide +kernel) rfl (by decide) (Nat.le_of_ble_eq_true rfl) (Nat.le_of_ble_eq_true rfl) (by decide) (by decide) dX1_init_7 (fun q1 => ?_)
  refine c_putF (C := RX1) (T := TX1) (N := 3) (index := 7) (kf := 1) (v := .ref q1) hJ hin tyX1 tyX1_ok nmX1 rfl (by decide) (by decide +kernel) rfl rfl rfl (tyX1_ok 1 (by decide)) rfl rfl (Nat.le_of_ble_eq_true rfl) dX1_init_9 ?_
  refine g_aload_n hJ dX1_init_12 rfl ?_
  refine g_ldc (z := 33600) hJ (v := 33600) (by decide) (by decide +kernel) dX1_init_13 ?_
  refine c_newi (cI := cI) (t0 := 0) (kc := 5600) (N := 33600) hJ rfl (by decide +kernel) rfl (by decide) (Nat.le_of_ble_eq_true rfl) (Nat.le_of_ble_eq_true rfl) (by decide) (by decide) dX1_init_15 (fun q2 => ?_)
  refine c_putF (C := RX1) (T := TX1) (N := 3) (index := 14) (kf := 2) (v := .ref q2) hJ hin tyX1 tyX1_ok nmX1 rfl (by decide) (by decide +kernel) rfl rfl rfl (tyX1_ok 2 (by decide)) rfl rfl (Nat.le_of_ble_eq_true rfl) dX1_init_17 ?_
  exact c_vret hJ (Nat.le_of_ble_eq_true rfl) ⟨rfl, (fun i => match i with | 0 => b | 1 => q1 | _ => q2), rfl, rfl⟩ dX1_init_20
end CTR
