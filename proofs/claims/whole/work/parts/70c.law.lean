section LawC
variable {l : Launch} {D : va_G} {cI cO cL : ClassId} {J : JT va_W} {b L : Nat} {xs : Nat → Int32} {a a2 : Nat → Nat} {Z Z2 : ZZ} {o : Nat} {f : Nat → Int64} {k i : Nat} {g : Nat → Int}
set_option maxRecDepth 20000 in
theorem law_compareSizes (hJ : IsG l D (tL cI cO cL) cL_law 7 wsL_law RL room_1 (XL b L xs) J) (hl0 : l.stackTraces = false) (hI : XI Z g) (hM : MI Z2 g) (hi : i + 5 ≤ L) (hL : L ≤ 2560) (hk : k + 8 ≤ 601024)
    (nx : ∀ (g' : Nat → Int) (Z' : ZZ) (f' : Nat → Int64) (Z2' : ZZ), XI Z' g' → MI Z2' g' → J ((wX cI cO a Z' ++ wO cL o f') ++ wM cI a2 Z2') (k + 8) 1008 [(0, .ref b), (1, .ref (a 0)), (2, .ref (a2 0)), (3, .ref o), (4, .int (iZ (i : Int)))] []) : J ((wX cI cO a Z ++ wO cL o f) ++ wM cI a2 Z2) k 692 [(0, .ref b), (1, .ref (a 0)), (2, .ref (a2 0)), (3, .ref o), (4, .int (iZ (i : Int)))] [] := by
  refine g_aload_n hJ dL_law_692 rfl ?_
  refine g_arg (i := (i : Int)) (n := i + 1) hJ (by omega) (by omega) hL rfl rfl dL_law_693 dL_law_694 dL_law_696 dL_law_697 dL_law_698 ?_
  refine g_arg (i := (i : Int)) (n := i + 2) hJ (by omega) (by omega) hL rfl rfl dL_law_699 dL_law_700 dL_law_702 dL_law_703 dL_law_704 ?_
  refine g_aload_n hJ dL_law_705 rfl ?_
  refine g_callW (n := 4) (r2 := wM cI a2 Z2) hJ (kL_compareSizes l D cI cO cL a Z o f hl0 g hI ((xs (i + 1)).toInt) ((xs (i + 2)).toInt) (i32_v _) (i32_v _)) rfl gL_law_L_compareSizes rfl (by decide +kernel) rfl ⟨Nat.le_of_ble_eq_true rfl, Nat.le_of_ble_eq_true rfl⟩ (Nat.le_of_ble_eq_true rfl) (l_room hk (by omega)) [0, 1, 2] rfl dL_law_706 (fun r3 w3 h3 => ?_)
  obtain ⟨Z3, f3, rfl, hX3, hf3, rfl⟩ := h3
  refine g_istore hJ (by decide) dL_law_709 ?_
  refine g_aload_n hJ dL_law_711 rfl ?_
  refine g_arg (i := (i : Int)) (n := i + 1) hJ (by omega) (by omega) hL rfl rfl dL_law_712 dL_law_713 dL_law_715 dL_law_716 dL_law_717 ?_
  refine g_arg (i := (i : Int)) (n := i + 2) hJ (by omega) (by omega) hL rfl rfl dL_law_718 dL_law_719 dL_law_721 dL_law_722 dL_law_723 ?_
  refine g_callM (r1 := wX cI cO a Z3 ++ wO cL o f3) hJ (kX1_compareSizes l D cI a2 Z2 g hM ((xs (i + 1)).toInt) ((xs (i + 2)).toInt) (i32_v _) (i32_v _)) rfl gL_law_X1_compareSizes rfl hdX1_compareSizes rfl ⟨Nat.le_of_ble_eq_true rfl, Nat.le_of_ble_eq_true rfl⟩ (Nat.le_of_ble_eq_true rfl) (l_room hk (by omega)) [0] rfl dL_law_724 (fun r4 Z4 h4 => ?_)
  obtain ⟨rfl, hc4, hM4⟩ := h4
  refine g_istore hJ (by decide) dL_law_727 ?_
  refine g_aload_n hJ dL_law_729 rfl ?_
  refine g_callM (As := []) (r1 := wX cI cO a Z3 ++ wO cL o f3) hJ (kX1_thrown l D cI a2 Z4) rfl gL_law_X1_thrown rfl hdX1_thrown rfl ⟨Nat.le_of_ble_eq_true rfl, Nat.le_of_ble_eq_true rfl⟩ (Nat.le_of_ble_eq_true rfl) (l_room hk (by omega)) [0] rfl dL_law_730 (fun r5 Z5 h5 => ?_)
  obtain ⟨rfl, rfl⟩ := h5
  refine g_iload hJ dL_law_733 rfl ?_
  refine g_ieq (tgt := 740) hJ (by rw [hc4]) (by decide) dL_law_735 ?_
  refine g_iload hJ dL_law_740 rfl ?_
  refine g_if_ne (tgt := 757) hJ (by decide) (by have h := oCmpS_e g ((xs (i + 1)).toInt) ((xs (i + 2)).toInt); exact ⟨by omega, by omega⟩) dL_law_742 (fun _ => ?_) (fun hz => ?_)
  · refine g_goto (tgt := 1008) hJ (by decide) dL_law_757 ?_
    exact g_re hJ (g_wide hJ (by omega) (nx _ Z3 f3 Z4 hX3 hM4)) ⟨rfl, rfl, rfl, rfl, rfl, trivial⟩
  · refine g_aload_n hJ dL_law_745 rfl ?_
    refine g_iconst hJ dL_law_746 ?_
    refine g_laload (t0 := 2) hJ rfl dL_law_747 ?_
    refine g_iload hJ dL_law_748 rfl ?_
    refine g_i2lv hJ dL_law_750 ?_
    refine g_leq (tgt := 757) hJ (hf3 hz) (by decide) dL_law_751 dL_law_752 ?_
    refine g_goto (tgt := 1008) hJ (by decide) dL_law_757 ?_
    exact g_re hJ (g_wide hJ (by omega) (nx _ Z3 f3 Z4 hX3 hM4)) ⟨rfl, rfl, rfl, rfl, rfl, trivial⟩
set_option maxRecDepth 20000 in
theorem law_sign (hJ : IsG l D (tL cI cO cL) cL_law 7 wsL_law RL room_1 (XL b L xs) J) (hl0 : l.stackTraces = false) (hI : XI Z g) (hM : MI Z2 g) (hi : i + 5 ≤ L) (hL : L ≤ 2560) (hk : k + 8 ≤ 601024)
    (nx : ∀ (g' : Nat → Int) (Z' : ZZ) (f' : Nat → Int64) (Z2' : ZZ), XI Z' g' → MI Z2' g' → J ((wX cI cO a Z' ++ wO cL o f') ++ wM cI a2 Z2') (k + 8) 1008 [(0, .ref b), (1, .ref (a 0)), (2, .ref (a2 0)), (3, .ref o), (4, .int (iZ (i : Int)))] []) : J ((wX cI cO a Z ++ wO cL o f) ++ wM cI a2 Z2) k 760 [(0, .ref b), (1, .ref (a 0)), (2, .ref (a2 0)), (3, .ref o), (4, .int (iZ (i : Int)))] [] := by
  refine g_aload_n hJ dL_law_760 rfl ?_
  refine g_arg (i := (i : Int)) (n := i + 1) hJ (by omega) (by omega) hL rfl rfl dL_law_761 dL_law_762 dL_law_764 dL_law_765 dL_law_766 ?_
  refine g_aload_n hJ dL_law_767 rfl ?_
  refine g_callW (n := 3) (r2 := wM cI a2 Z2) hJ (kL_sign l D cI cO cL a Z o f hl0 g hI ((xs (i + 1)).toInt) (i32_v _)) rfl gL_law_L_sign rfl (by decide +kernel) rfl ⟨Nat.le_of_ble_eq_true rfl, Nat.le_of_ble_eq_true rfl⟩ (Nat.le_of_ble_eq_true rfl) (l_room hk (by omega)) [0, 1, 2] rfl dL_law_768 (fun r3 w3 h3 => ?_)
  obtain ⟨Z3, f3, rfl, hX3, hf3, rfl⟩ := h3
  refine g_istore hJ (by decide) dL_law_771 ?_
  refine g_aload_n hJ dL_law_773 rfl ?_
  refine g_arg (i := (i : Int)) (n := i + 1) hJ (by omega) (by omega) hL rfl rfl dL_law_774 dL_law_775 dL_law_777 dL_law_778 dL_law_779 ?_
  refine g_callM (r1 := wX cI cO a Z3 ++ wO cL o f3) hJ (kX1_sign l D cI a2 Z2 g hM ((xs (i + 1)).toInt) (i32_v _)) rfl gL_law_X1_sign rfl hdX1_sign rfl ⟨Nat.le_of_ble_eq_true rfl, Nat.le_of_ble_eq_true rfl⟩ (Nat.le_of_ble_eq_true rfl) (l_room hk (by omega)) [0] rfl dL_law_780 (fun r4 Z4 h4 => ?_)
  obtain ⟨rfl, hc4, hM4⟩ := h4
  refine g_istore hJ (by decide) dL_law_783 ?_
  refine g_aload_n hJ dL_law_785 rfl ?_
  refine g_callM (As := []) (r1 := wX cI cO a Z3 ++ wO cL o f3) hJ (kX1_thrown l D cI a2 Z4) rfl gL_law_X1_thrown rfl hdX1_thrown rfl ⟨Nat.le_of_ble_eq_true rfl, Nat.le_of_ble_eq_true rfl⟩ (Nat.le_of_ble_eq_true rfl) (l_room hk (by omega)) [0] rfl dL_law_786 (fun r5 Z5 h5 => ?_)
  obtain ⟨rfl, rfl⟩ := h5
  refine g_iload hJ dL_law_789 rfl ?_
  refine g_ieq (tgt := 796) hJ (by rw [hc4]) (by decide) dL_law_791 ?_
  refine g_iload hJ dL_law_796 rfl ?_
  refine g_if_ne (tgt := 813) hJ (by decide) (by have h := oSign_e g ((xs (i + 1)).toInt); exact ⟨by omega, by omega⟩) dL_law_798 (fun _ => ?_) (fun hz => ?_)
  · refine g_goto (tgt := 1008) hJ (by decide) dL_law_813 ?_
    exact g_re hJ (g_wide hJ (by omega) (nx _ Z3 f3 Z4 hX3 hM4)) ⟨rfl, rfl, rfl, rfl, rfl, trivial⟩
  · refine g_aload_n hJ dL_law_801 rfl ?_
    refine g_iconst hJ dL_law_802 ?_
    refine g_laload (t0 := 2) hJ rfl dL_law_803 ?_
    refine g_iload hJ dL_law_804 rfl ?_
    refine g_i2lv hJ dL_law_806 ?_
    refine g_leq (tgt := 813) hJ (hf3 hz) (by decide) dL_law_807 dL_law_808 ?_
    refine g_goto (tgt := 1008) hJ (by decide) dL_law_813 ?_
    exact g_re hJ (g_wide hJ (by omega) (nx _ Z3 f3 Z4 hX3 hM4)) ⟨rfl, rfl, rfl, rfl, rfl, trivial⟩
set_option maxRecDepth 20000 in
theorem law_bits (hJ : IsG l D (tL cI cO cL) cL_law 7 wsL_law RL room_1 (XL b L xs) J) (hl0 : l.stackTraces = false) (hI : XI Z g) (hM : MI Z2 g) (hi : i + 5 ≤ L) (hL : L ≤ 2560) (hk : k + 8 ≤ 601024)
    (nx : ∀ (g' : Nat → Int) (Z' : ZZ) (f' : Nat → Int64) (Z2' : ZZ), XI Z' g' → MI Z2' g' → J ((wX cI cO a Z' ++ wO cL o f') ++ wM cI a2 Z2') (k + 8) 1008 [(0, .ref b), (1, .ref (a 0)), (2, .ref (a2 0)), (3, .ref o), (4, .int (iZ (i : Int)))] []) : J ((wX cI cO a Z ++ wO cL o f) ++ wM cI a2 Z2) k 816 [(0, .ref b), (1, .ref (a 0)), (2, .ref (a2 0)), (3, .ref o), (4, .int (iZ (i : Int)))] [] := by
  refine g_aload_n hJ dL_law_816 rfl ?_
  refine g_arg (i := (i : Int)) (n := i + 1) hJ (by omega) (by omega) hL rfl rfl dL_law_817 dL_law_818 dL_law_820 dL_law_821 dL_law_822 ?_
  refine g_aload_n hJ dL_law_823 rfl ?_
  refine g_callW (n := 3) (r2 := wM cI a2 Z2) hJ (kL_bits l D cI cO cL a Z o f hl0 g hI ((xs (i + 1)).toInt) (i32_v _)) rfl gL_law_L_bits rfl (by decide +kernel) rfl ⟨Nat.le_of_ble_eq_true rfl, Nat.le_of_ble_eq_true rfl⟩ (Nat.le_of_ble_eq_true rfl) (l_room hk (by omega)) [0, 1, 2] rfl dL_law_824 (fun r3 w3 h3 => ?_)
  obtain ⟨Z3, f3, rfl, hX3, hf3, rfl⟩ := h3
  refine g_istore hJ (by decide) dL_law_827 ?_
  refine g_aload_n hJ dL_law_829 rfl ?_
  refine g_arg (i := (i : Int)) (n := i + 1) hJ (by omega) (by omega) hL rfl rfl dL_law_830 dL_law_831 dL_law_833 dL_law_834 dL_law_835 ?_
  refine g_callM (r1 := wX cI cO a Z3 ++ wO cL o f3) hJ (kX1_bits l D cI a2 Z2 g hM ((xs (i + 1)).toInt) (i32_v _)) rfl gL_law_X1_bits rfl hdX1_bits rfl ⟨Nat.le_of_ble_eq_true rfl, Nat.le_of_ble_eq_true rfl⟩ (Nat.le_of_ble_eq_true rfl) (l_room hk (by omega)) [0] rfl dL_law_836 (fun r4 Z4 h4 => ?_)
  obtain ⟨rfl, hc4, hM4⟩ := h4
  refine g_istore hJ (by decide) dL_law_839 ?_
  refine g_aload_n hJ dL_law_841 rfl ?_
  refine g_callM (As := []) (r1 := wX cI cO a Z3 ++ wO cL o f3) hJ (kX1_thrown l D cI a2 Z4) rfl gL_law_X1_thrown rfl hdX1_thrown rfl ⟨Nat.le_of_ble_eq_true rfl, Nat.le_of_ble_eq_true rfl⟩ (Nat.le_of_ble_eq_true rfl) (l_room hk (by omega)) [0] rfl dL_law_842 (fun r5 Z5 h5 => ?_)
  obtain ⟨rfl, rfl⟩ := h5
  refine g_iload hJ dL_law_845 rfl ?_
  refine g_ieq (tgt := 852) hJ (by rw [hc4]) (by decide) dL_law_847 ?_
  refine g_iload hJ dL_law_852 rfl ?_
  refine g_if_ne (tgt := 869) hJ (by decide) (by have h := oBits_e g ((xs (i + 1)).toInt); exact ⟨by omega, by omega⟩) dL_law_854 (fun _ => ?_) (fun hz => ?_)
  · refine g_goto (tgt := 1008) hJ (by decide) dL_law_869 ?_
    exact g_re hJ (g_wide hJ (by omega) (nx _ Z3 f3 Z4 hX3 hM4)) ⟨rfl, rfl, rfl, rfl, rfl, trivial⟩
  · refine g_aload_n hJ dL_law_857 rfl ?_
    refine g_iconst hJ dL_law_858 ?_
    refine g_laload (t0 := 2) hJ rfl dL_law_859 ?_
    refine g_iload hJ dL_law_860 rfl ?_
    refine g_i2lv hJ dL_law_862 ?_
    refine g_leq (tgt := 869) hJ (hf3 hz) (by decide) dL_law_863 dL_law_864 ?_
    refine g_goto (tgt := 1008) hJ (by decide) dL_law_869 ?_
    exact g_re hJ (g_wide hJ (by omega) (nx _ Z3 f3 Z4 hX3 hM4)) ⟨rfl, rfl, rfl, rfl, rfl, trivial⟩
set_option maxRecDepth 20000 in
theorem law_word (hJ : IsG l D (tL cI cO cL) cL_law 7 wsL_law RL room_1 (XL b L xs) J) (hl0 : l.stackTraces = false) (hI : XI Z g) (hM : MI Z2 g) (hi : i + 5 ≤ L) (hL : L ≤ 2560) (hk : k + 8 ≤ 601024)
    (nx : ∀ (g' : Nat → Int) (Z' : ZZ) (f' : Nat → Int64) (Z2' : ZZ), XI Z' g' → MI Z2' g' → J ((wX cI cO a Z' ++ wO cL o f') ++ wM cI a2 Z2') (k + 8) 1008 [(0, .ref b), (1, .ref (a 0)), (2, .ref (a2 0)), (3, .ref o), (4, .int (iZ (i : Int)))] []) : J ((wX cI cO a Z ++ wO cL o f) ++ wM cI a2 Z2) k 872 [(0, .ref b), (1, .ref (a 0)), (2, .ref (a2 0)), (3, .ref o), (4, .int (iZ (i : Int)))] [] := by
  refine g_aload_n hJ dL_law_872 rfl ?_
  refine g_arg (i := (i : Int)) (n := i + 1) hJ (by omega) (by omega) hL rfl rfl dL_law_873 dL_law_874 dL_law_876 dL_law_877 dL_law_878 ?_
  refine g_arg (i := (i : Int)) (n := i + 2) hJ (by omega) (by omega) hL rfl rfl dL_law_879 dL_law_880 dL_law_882 dL_law_883 dL_law_884 ?_
  refine g_aload_n hJ dL_law_885 rfl ?_
  refine g_callW (n := 4) (r2 := wM cI a2 Z2) hJ (kL_word l D cI cO cL a Z o f hl0 g hI ((xs (i + 1)).toInt) ((xs (i + 2)).toInt) (i32_v _) (i32_v _)) rfl gL_law_L_word rfl (by decide +kernel) rfl ⟨Nat.le_of_ble_eq_true rfl, Nat.le_of_ble_eq_true rfl⟩ (Nat.le_of_ble_eq_true rfl) (l_room hk (by omega)) [0, 1, 2] rfl dL_law_886 (fun r3 w3 h3 => ?_)
  obtain ⟨Z3, f3, rfl, hX3, hf3, rfl⟩ := h3
  refine g_istore hJ (by decide) dL_law_889 ?_
  refine g_aload_n hJ dL_law_891 rfl ?_
  refine g_arg (i := (i : Int)) (n := i + 1) hJ (by omega) (by omega) hL rfl rfl dL_law_892 dL_law_893 dL_law_895 dL_law_896 dL_law_897 ?_
  refine g_arg (i := (i : Int)) (n := i + 2) hJ (by omega) (by omega) hL rfl rfl dL_law_898 dL_law_899 dL_law_901 dL_law_902 dL_law_903 ?_
  refine g_callM (r1 := wX cI cO a Z3 ++ wO cL o f3) hJ (kX1_word l D cI a2 Z2 g hM ((xs (i + 1)).toInt) ((xs (i + 2)).toInt) (i32_v _) (i32_v _)) rfl gL_law_X1_word rfl hdX1_word rfl ⟨Nat.le_of_ble_eq_true rfl, Nat.le_of_ble_eq_true rfl⟩ (Nat.le_of_ble_eq_true rfl) (l_room hk (by omega)) [0] rfl dL_law_904 (fun r4 Z4 h4 => ?_)
  obtain ⟨rfl, hc4, hM4⟩ := h4
  refine g_istore hJ (by decide) dL_law_907 ?_
  refine g_aload_n hJ dL_law_909 rfl ?_
  refine g_callM (As := []) (r1 := wX cI cO a Z3 ++ wO cL o f3) hJ (kX1_thrown l D cI a2 Z4) rfl gL_law_X1_thrown rfl hdX1_thrown rfl ⟨Nat.le_of_ble_eq_true rfl, Nat.le_of_ble_eq_true rfl⟩ (Nat.le_of_ble_eq_true rfl) (l_room hk (by omega)) [0] rfl dL_law_910 (fun r5 Z5 h5 => ?_)
  obtain ⟨rfl, rfl⟩ := h5
  refine g_iload hJ dL_law_913 rfl ?_
  refine g_ieq (tgt := 920) hJ (by rw [hc4]) (by decide) dL_law_915 ?_
  refine g_iload hJ dL_law_920 rfl ?_
  refine g_if_ne (tgt := 937) hJ (by decide) (by have h := oWord_e g ((xs (i + 1)).toInt) ((xs (i + 2)).toInt); exact ⟨by omega, by omega⟩) dL_law_922 (fun _ => ?_) (fun hz => ?_)
  · refine g_goto (tgt := 1008) hJ (by decide) dL_law_937 ?_
    exact g_re hJ (g_wide hJ (by omega) (nx _ Z3 f3 Z4 hX3 hM4)) ⟨rfl, rfl, rfl, rfl, rfl, trivial⟩
  · refine g_aload_n hJ dL_law_925 rfl ?_
    refine g_iconst hJ dL_law_926 ?_
    refine g_laload (t0 := 2) hJ rfl dL_law_927 ?_
    refine g_iload hJ dL_law_928 rfl ?_
    refine g_i2lv hJ dL_law_930 ?_
    refine g_leq (tgt := 937) hJ (hf3 hz) (by decide) dL_law_931 dL_law_932 ?_
    refine g_goto (tgt := 1008) hJ (by decide) dL_law_937 ?_
    exact g_re hJ (g_wide hJ (by omega) (nx _ Z3 f3 Z4 hX3 hM4)) ⟨rfl, rfl, rfl, rfl, rfl, trivial⟩
set_option maxRecDepth 20000 in
theorem law_residue (hJ : IsG l D (tL cI cO cL) cL_law 7 wsL_law RL room_1 (XL b L xs) J) (hl0 : l.stackTraces = false) (hI : XI Z g) (hM : MI Z2 g) (hi : i + 5 ≤ L) (hL : L ≤ 2560) (hk : k + 8 ≤ 601024)
    (nx : ∀ (g' : Nat → Int) (Z' : ZZ) (f' : Nat → Int64) (Z2' : ZZ), XI Z' g' → MI Z2' g' → J ((wX cI cO a Z' ++ wO cL o f') ++ wM cI a2 Z2') (k + 8) 1008 [(0, .ref b), (1, .ref (a 0)), (2, .ref (a2 0)), (3, .ref o), (4, .int (iZ (i : Int)))] []) : J ((wX cI cO a Z ++ wO cL o f) ++ wM cI a2 Z2) k 940 [(0, .ref b), (1, .ref (a 0)), (2, .ref (a2 0)), (3, .ref o), (4, .int (iZ (i : Int)))] [] := by
  refine g_aload_n hJ dL_law_940 rfl ?_
  refine g_arg (i := (i : Int)) (n := i + 1) hJ (by omega) (by omega) hL rfl rfl dL_law_941 dL_law_942 dL_law_944 dL_law_945 dL_law_946 ?_
  refine g_arg (i := (i : Int)) (n := i + 2) hJ (by omega) (by omega) hL rfl rfl dL_law_947 dL_law_948 dL_law_950 dL_law_951 dL_law_952 ?_
  refine g_aload_n hJ dL_law_953 rfl ?_
  refine g_callW (n := 4) (r2 := wM cI a2 Z2) hJ (kL_residue l D cI cO cL a Z o f hl0 g hI ((xs (i + 1)).toInt) ((xs (i + 2)).toInt) (i32_v _) (i32_v _)) rfl gL_law_L_residue rfl (by decide +kernel) rfl ⟨Nat.le_of_ble_eq_true rfl, Nat.le_of_ble_eq_true rfl⟩ (Nat.le_of_ble_eq_true rfl) (l_room hk (by omega)) [0, 1, 2] rfl dL_law_954 (fun r3 w3 h3 => ?_)
  obtain ⟨Z3, f3, rfl, hX3, hf3, rfl⟩ := h3
  refine g_istore hJ (by decide) dL_law_957 ?_
  refine g_aload_n hJ dL_law_959 rfl ?_
  refine g_arg (i := (i : Int)) (n := i + 1) hJ (by omega) (by omega) hL rfl rfl dL_law_960 dL_law_961 dL_law_963 dL_law_964 dL_law_965 ?_
  refine g_arg (i := (i : Int)) (n := i + 2) hJ (by omega) (by omega) hL rfl rfl dL_law_966 dL_law_967 dL_law_969 dL_law_970 dL_law_971 ?_
  refine g_callM (r1 := wX cI cO a Z3 ++ wO cL o f3) hJ (kX1_residue l D cI a2 Z2 g hM ((xs (i + 1)).toInt) ((xs (i + 2)).toInt) (i32_v _) (i32_v _)) rfl gL_law_X1_residue rfl hdX1_residue rfl ⟨Nat.le_of_ble_eq_true rfl, Nat.le_of_ble_eq_true rfl⟩ (Nat.le_of_ble_eq_true rfl) (l_room hk (by omega)) [0] rfl dL_law_972 (fun r4 Z4 h4 => ?_)
  obtain ⟨rfl, hc4, hM4⟩ := h4
  refine g_istore hJ (by decide) dL_law_975 ?_
  refine g_aload_n hJ dL_law_977 rfl ?_
  refine g_callM (As := []) (r1 := wX cI cO a Z3 ++ wO cL o f3) hJ (kX1_thrown l D cI a2 Z4) rfl gL_law_X1_thrown rfl hdX1_thrown rfl ⟨Nat.le_of_ble_eq_true rfl, Nat.le_of_ble_eq_true rfl⟩ (Nat.le_of_ble_eq_true rfl) (l_room hk (by omega)) [0] rfl dL_law_978 (fun r5 Z5 h5 => ?_)
  obtain ⟨rfl, rfl⟩ := h5
  refine g_iload hJ dL_law_981 rfl ?_
  refine g_ieq (tgt := 988) hJ (by rw [hc4]) (by decide) dL_law_983 ?_
  refine g_iload hJ dL_law_988 rfl ?_
  refine g_if_ne (tgt := 1005) hJ (by decide) (by have h := oRes_e g ((xs (i + 1)).toInt) ((xs (i + 2)).toInt); exact ⟨by omega, by omega⟩) dL_law_990 (fun _ => ?_) (fun hz => ?_)
  · refine g_goto (tgt := 1008) hJ (by decide) dL_law_1005 ?_
    exact g_re hJ (g_wide hJ (by omega) (nx _ Z3 f3 Z4 hX3 hM4)) ⟨rfl, rfl, rfl, rfl, rfl, trivial⟩
  · refine g_aload_n hJ dL_law_993 rfl ?_
    refine g_iconst hJ dL_law_994 ?_
    refine g_laload (t0 := 2) hJ rfl dL_law_995 ?_
    refine g_iload hJ dL_law_996 rfl ?_
    refine g_i2lv hJ dL_law_998 ?_
    refine g_leq (tgt := 1005) hJ (hf3 hz) (by decide) dL_law_999 dL_law_1000 ?_
    refine g_goto (tgt := 1008) hJ (by decide) dL_law_1005 ?_
    exact g_re hJ (g_wide hJ (by omega) (nx _ Z3 f3 Z4 hX3 hM4)) ⟨rfl, rfl, rfl, rfl, rfl, trivial⟩
end LawC
