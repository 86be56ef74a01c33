/-! the law, a call at a time -/
set_option maxRecDepth 100000 in
set_option maxHeartbeats 4000000 in
theorem law_c21 {K : vK} {l : Launch} {D : va_G} {C : Nat → ClassId} {x0 m0 : Nat} {ax : (Nat → Nat) × (Nat → Nat) × (Nat → Nat)} {am : Nat → Nat} {b L i : Nat} {xs : Nat → Int32} (hKl : K.1.1.2.1 = l) (hE : eV K (gL D C x0 ax m0 am) cL_law 4 RL wsL_law room_1) (hC : scrA K b L xs) (hi : i + 3 < L) (hL : L ≤ 2048) {u : XS} {w : MS} (h : Rel u w) (hk : ∀ (u : XS) (w : MS), Rel u w → vV K (gL D C x0 ax m0 am) (u, w) [(3, .int (nI i)), (2, .ref m0), (1, .ref x0), (0, .ref b)] [] 889) : vV K (gL D C x0 ax m0 am) (u, w) [(3, .int (nI i)), (2, .ref m0), (1, .ref x0), (0, .ref b)] [] 735 := by
  subst hKl
  refine v_aload_n 736 hE dL_law_735 rfl rfl ?_
  refine v_aload_n 737 hE dL_law_736 rfl rfl ?_
  refine v_iload_n 738 hE dL_law_737 rfl rfl ?_
  refine v_iconst 739 hE (v := nI 1) dL_law_738 (by decide) rfl ?_
  refine v_iaddN 740 hE dL_law_739 rfl ?_
  refine v_sld 741 hE hC (i := i + 1) (by omega) (by omega) dL_law_740 rfl ?_
  refine v_ci 744 hE (sub_x hE) (v_runV 1 hE (sub_x hE) (kX4_pairsOnLink _ (yZ D C x0 ax) u _ h.1) gL_law_X4_pairsOnLink rfl (by decide +kernel) rfl (q0 := 0) rfl rfl ⟨rfl, rfl, Nat.le_of_ble_eq_true rfl, Nat.le_of_ble_eq_true rfl⟩ rfl (Nat.le_of_ble_eq_true rfl) dL_law_741) (back_x hE _) rfl ?_
  refine v_aload_n 745 hE dL_law_744 rfl rfl ?_
  refine v_aload_n 746 hE dL_law_745 rfl rfl ?_
  refine v_iload_n 747 hE dL_law_746 rfl rfl ?_
  refine v_iconst 748 hE (v := nI 1) dL_law_747 (by decide) rfl ?_
  refine v_iaddN 749 hE dL_law_748 rfl ?_
  refine v_sld 750 hE hC (i := i + 1) (by omega) (by omega) dL_law_749 rfl ?_
  refine v_ci 753 hE (sub_m hE) (v_runV 1 hE (sub_m hE) (kX5_pairsOnLink _ (yM D C m0 am) w _ h.2.1) gL_law_X5_pairsOnLink rfl (by decide +kernel) rfl (q0 := 0) rfl rfl ⟨rfl, rfl, Nat.le_of_ble_eq_true rfl, Nat.le_of_ble_eq_true rfl⟩ rfl (Nat.le_of_ble_eq_true rfl) dL_law_750) (back_m hE _) rfl ?_
  refine v_ic_eq 756 hE 889 dL_law_753 (by decide) rfl (fun _ => ?_) (fun e => absurd (op_onl h (xs (i + 1))).1 e)
  exact hk _ _ (op_onl h (xs (i + 1))).2
set_option maxRecDepth 100000 in
set_option maxHeartbeats 4000000 in
theorem law_c22 {K : vK} {l : Launch} {D : va_G} {C : Nat → ClassId} {x0 m0 : Nat} {ax : (Nat → Nat) × (Nat → Nat) × (Nat → Nat)} {am : Nat → Nat} {b L i : Nat} {xs : Nat → Int32} (hKl : K.1.1.2.1 = l) (hE : eV K (gL D C x0 ax m0 am) cL_law 4 RL wsL_law room_1) (hC : scrA K b L xs) (hi : i + 3 < L) (hL : L ≤ 2048) {u : XS} {w : MS} (h : Rel u w) (hk : ∀ (u : XS) (w : MS), Rel u w → vV K (gL D C x0 ax m0 am) (u, w) [(3, .int (nI i)), (2, .ref m0), (1, .ref x0), (0, .ref b)] [] 889) : vV K (gL D C x0 ax m0 am) (u, w) [(3, .int (nI i)), (2, .ref m0), (1, .ref x0), (0, .ref b)] [] 758 := by
  subst hKl
  refine v_aload_n 759 hE dL_law_758 rfl rfl ?_
  refine v_ci 762 hE (sub_x hE) (v_runV 0 hE (sub_x hE) (kX4_applyGravity _ (yZ D C x0 ax) u h.1) gL_law_X4_applyGravity rfl (by decide +kernel) rfl (q0 := 0) rfl rfl ⟨rfl, rfl, Nat.le_of_ble_eq_true rfl, Nat.le_of_ble_eq_true rfl⟩ rfl (Nat.le_of_ble_eq_true rfl) dL_law_759) (back_x hE _) rfl ?_
  refine v_aload_n 763 hE dL_law_762 rfl rfl ?_
  refine v_ci 766 hE (sub_m hE) (v_runV 0 hE (sub_m hE) (kX5_applyGravity _ (yM D C m0 am) w h.2.1) gL_law_X5_applyGravity rfl (by decide +kernel) rfl (q0 := 0) rfl rfl ⟨rfl, rfl, Nat.le_of_ble_eq_true rfl, Nat.le_of_ble_eq_true rfl⟩ rfl (Nat.le_of_ble_eq_true rfl) dL_law_763) (back_m hE _) rfl ?_
  refine v_ic_eq 769 hE 889 dL_law_766 (by decide) rfl (fun _ => ?_) (fun e => absurd (op_grav h).1 e)
  exact hk _ _ (op_grav h).2
set_option maxRecDepth 100000 in
set_option maxHeartbeats 4000000 in
theorem law_c23 {K : vK} {l : Launch} {D : va_G} {C : Nat → ClassId} {x0 m0 : Nat} {ax : (Nat → Nat) × (Nat → Nat) × (Nat → Nat)} {am : Nat → Nat} {b L i : Nat} {xs : Nat → Int32} (hKl : K.1.1.2.1 = l) (hE : eV K (gL D C x0 ax m0 am) cL_law 4 RL wsL_law room_1) (hC : scrA K b L xs) (hi : i + 3 < L) (hL : L ≤ 2048) {u : XS} {w : MS} (h : Rel u w) (hk : ∀ (u : XS) (w : MS), Rel u w → vV K (gL D C x0 ax m0 am) (u, w) [(3, .int (nI i)), (2, .ref m0), (1, .ref x0), (0, .ref b)] [] 889) : vV K (gL D C x0 ax m0 am) (u, w) [(3, .int (nI i)), (2, .ref m0), (1, .ref x0), (0, .ref b)] [] 771 := by
  subst hKl
  refine v_aload_n 772 hE dL_law_771 rfl rfl ?_
  refine v_aload_n 773 hE dL_law_772 rfl rfl ?_
  refine v_iload_n 774 hE dL_law_773 rfl rfl ?_
  refine v_iconst 775 hE (v := nI 1) dL_law_774 (by decide) rfl ?_
  refine v_iaddN 776 hE dL_law_775 rfl ?_
  refine v_sld 777 hE hC (i := i + 1) (by omega) (by omega) dL_law_776 rfl ?_
  refine v_ci 780 hE (sub_x hE) (v_runV 1 hE (sub_x hE) (kX4_fitTotals _ (yZ D C x0 ax) u _ h.1) gL_law_X4_fitTotals rfl (by decide +kernel) rfl (q0 := 0) rfl rfl ⟨rfl, rfl, Nat.le_of_ble_eq_true rfl, Nat.le_of_ble_eq_true rfl⟩ rfl (Nat.le_of_ble_eq_true rfl) dL_law_777) (back_x hE _) rfl ?_
  refine v_aload_n 781 hE dL_law_780 rfl rfl ?_
  refine v_aload_n 782 hE dL_law_781 rfl rfl ?_
  refine v_iload_n 783 hE dL_law_782 rfl rfl ?_
  refine v_iconst 784 hE (v := nI 1) dL_law_783 (by decide) rfl ?_
  refine v_iaddN 785 hE dL_law_784 rfl ?_
  refine v_sld 786 hE hC (i := i + 1) (by omega) (by omega) dL_law_785 rfl ?_
  refine v_ci 789 hE (sub_m hE) (v_runV 1 hE (sub_m hE) (kX5_fitTotals _ (yM D C m0 am) w _ h.2.1) gL_law_X5_fitTotals rfl (by decide +kernel) rfl (q0 := 0) rfl rfl ⟨rfl, rfl, Nat.le_of_ble_eq_true rfl, Nat.le_of_ble_eq_true rfl⟩ rfl (Nat.le_of_ble_eq_true rfl) dL_law_786) (back_m hE _) rfl ?_
  refine v_ic_eq 792 hE 889 dL_law_789 (by decide) rfl (fun _ => ?_) (fun e => absurd (op_fitT h (xs (i + 1))).1 e)
  exact hk _ _ (op_fitT h (xs (i + 1))).2
set_option maxRecDepth 100000 in
set_option maxHeartbeats 4000000 in
theorem law_c24 {K : vK} {l : Launch} {D : va_G} {C : Nat → ClassId} {x0 m0 : Nat} {ax : (Nat → Nat) × (Nat → Nat) × (Nat → Nat)} {am : Nat → Nat} {b L i : Nat} {xs : Nat → Int32} (hKl : K.1.1.2.1 = l) (hE : eV K (gL D C x0 ax m0 am) cL_law 4 RL wsL_law room_1) (hC : scrA K b L xs) (hi : i + 3 < L) (hL : L ≤ 2048) {u : XS} {w : MS} (h : Rel u w) (hk : ∀ (u : XS) (w : MS), Rel u w → vV K (gL D C x0 ax m0 am) (u, w) [(3, .int (nI i)), (2, .ref m0), (1, .ref x0), (0, .ref b)] [] 889) : vV K (gL D C x0 ax m0 am) (u, w) [(3, .int (nI i)), (2, .ref m0), (1, .ref x0), (0, .ref b)] [] 794 := by
  subst hKl
  refine v_aload_n 795 hE dL_law_794 rfl rfl ?_
  refine v_aload_n 796 hE dL_law_795 rfl rfl ?_
  refine v_iload_n 797 hE dL_law_796 rfl rfl ?_
  refine v_iconst 798 hE (v := nI 1) dL_law_797 (by decide) rfl ?_
  refine v_iaddN 799 hE dL_law_798 rfl ?_
  refine v_sld 800 hE hC (i := i + 1) (by omega) (by omega) dL_law_799 rfl ?_
  refine v_ci 803 hE (sub_x hE) (v_runV 1 hE (sub_x hE) (kX4_fitLinks _ (yZ D C x0 ax) u _ h.1) gL_law_X4_fitLinks rfl (by decide +kernel) rfl (q0 := 0) rfl rfl ⟨rfl, rfl, Nat.le_of_ble_eq_true rfl, Nat.le_of_ble_eq_true rfl⟩ rfl (Nat.le_of_ble_eq_true rfl) dL_law_800) (back_x hE _) rfl ?_
  refine v_aload_n 804 hE dL_law_803 rfl rfl ?_
  refine v_aload_n 805 hE dL_law_804 rfl rfl ?_
  refine v_iload_n 806 hE dL_law_805 rfl rfl ?_
  refine v_iconst 807 hE (v := nI 1) dL_law_806 (by decide) rfl ?_
  refine v_iaddN 808 hE dL_law_807 rfl ?_
  refine v_sld 809 hE hC (i := i + 1) (by omega) (by omega) dL_law_808 rfl ?_
  refine v_ci 812 hE (sub_m hE) (v_runV 1 hE (sub_m hE) (kX5_fitLinks _ (yM D C m0 am) w _ h.2.1) gL_law_X5_fitLinks rfl (by decide +kernel) rfl (q0 := 0) rfl rfl ⟨rfl, rfl, Nat.le_of_ble_eq_true rfl, Nat.le_of_ble_eq_true rfl⟩ rfl (Nat.le_of_ble_eq_true rfl) dL_law_809) (back_m hE _) rfl ?_
  refine v_ic_eq 815 hE 889 dL_law_812 (by decide) rfl (fun _ => ?_) (fun e => absurd (op_fitK h (xs (i + 1))).1 e)
  exact hk _ _ (op_fitK h (xs (i + 1))).2
set_option maxRecDepth 100000 in
set_option maxHeartbeats 4000000 in
theorem law_c25 {K : vK} {l : Launch} {D : va_G} {C : Nat → ClassId} {x0 m0 : Nat} {ax : (Nat → Nat) × (Nat → Nat) × (Nat → Nat)} {am : Nat → Nat} {b L i : Nat} {xs : Nat → Int32} (hKl : K.1.1.2.1 = l) (hE : eV K (gL D C x0 ax m0 am) cL_law 4 RL wsL_law room_1) (hC : scrA K b L xs) (hi : i + 3 < L) (hL : L ≤ 2048) {u : XS} {w : MS} (h : Rel u w) (hk : ∀ (u : XS) (w : MS), Rel u w → vV K (gL D C x0 ax m0 am) (u, w) [(3, .int (nI i)), (2, .ref m0), (1, .ref x0), (0, .ref b)] [] 889) : vV K (gL D C x0 ax m0 am) (u, w) [(3, .int (nI i)), (2, .ref m0), (1, .ref x0), (0, .ref b)] [] 817 := by
  subst hKl
  refine v_aload_n 818 hE dL_law_817 rfl rfl ?_
  refine v_aload_n 819 hE dL_law_818 rfl rfl ?_
  refine v_iload_n 820 hE dL_law_819 rfl rfl ?_
  refine v_iconst 821 hE (v := nI 1) dL_law_820 (by decide) rfl ?_
  refine v_iaddN 822 hE dL_law_821 rfl ?_
  refine v_sld 823 hE hC (i := i + 1) (by omega) (by omega) dL_law_822 rfl ?_
  refine v_aload_n 824 hE dL_law_823 rfl rfl ?_
  refine v_iload_n 825 hE dL_law_824 rfl rfl ?_
  refine v_iconst 826 hE (v := nI 2) dL_law_825 (by decide) rfl ?_
  refine v_iaddN 827 hE dL_law_826 rfl ?_
  refine v_sld 828 hE hC (i := i + 2) (by omega) (by omega) dL_law_827 rfl ?_
  refine v_cl 831 hE (sub_x hE) (v_runV 2 hE (sub_x hE) (kX4_estimate _ (yZ D C x0 ax) u _ _ h.1) gL_law_X4_estimate rfl (by decide +kernel) rfl (q0 := 0) rfl rfl ⟨rfl, rfl, Nat.le_of_ble_eq_true rfl, Nat.le_of_ble_eq_true rfl⟩ rfl (Nat.le_of_ble_eq_true rfl) dL_law_828) (back_x hE _) rfl ?_
  refine v_aload_n 832 hE dL_law_831 rfl rfl ?_
  refine v_aload_n 833 hE dL_law_832 rfl rfl ?_
  refine v_iload_n 834 hE dL_law_833 rfl rfl ?_
  refine v_iconst 835 hE (v := nI 1) dL_law_834 (by decide) rfl ?_
  refine v_iaddN 836 hE dL_law_835 rfl ?_
  refine v_sld 837 hE hC (i := i + 1) (by omega) (by omega) dL_law_836 rfl ?_
  refine v_aload_n 838 hE dL_law_837 rfl rfl ?_
  refine v_iload_n 839 hE dL_law_838 rfl rfl ?_
  refine v_iconst 840 hE (v := nI 2) dL_law_839 (by decide) rfl ?_
  refine v_iaddN 841 hE dL_law_840 rfl ?_
  refine v_sld 842 hE hC (i := i + 2) (by omega) (by omega) dL_law_841 rfl ?_
  refine v_cl 845 hE (sub_m hE) (v_runV 2 hE (sub_m hE) (kX5_estimate _ (yM D C m0 am) w _ _ h.2.1) gL_law_X5_estimate rfl (by decide +kernel) rfl (q0 := 0) rfl rfl ⟨rfl, rfl, Nat.le_of_ble_eq_true rfl, Nat.le_of_ble_eq_true rfl⟩ rfl (Nat.le_of_ble_eq_true rfl) dL_law_842) (back_m hE _) rfl ?_
  refine v_lc_eq 846 849 hE 889 dL_law_845 dL_law_846 (by decide) rfl rfl (fun _ => ?_) (fun e => absurd (op_est h (xs (i + 1)) (xs (i + 2))) e)
  exact hk _ _ h
set_option maxRecDepth 100000 in
set_option maxHeartbeats 4000000 in
theorem law_c26 {K : vK} {l : Launch} {D : va_G} {C : Nat → ClassId} {x0 m0 : Nat} {ax : (Nat → Nat) × (Nat → Nat) × (Nat → Nat)} {am : Nat → Nat} {b L i : Nat} {xs : Nat → Int32} (hKl : K.1.1.2.1 = l) (hE : eV K (gL D C x0 ax m0 am) cL_law 4 RL wsL_law room_1) (hC : scrA K b L xs) (hi : i + 3 < L) (hL : L ≤ 2048) {u : XS} {w : MS} (h : Rel u w) (hk : ∀ (u : XS) (w : MS), Rel u w → vV K (gL D C x0 ax m0 am) (u, w) [(3, .int (nI i)), (2, .ref m0), (1, .ref x0), (0, .ref b)] [] 889) : vV K (gL D C x0 ax m0 am) (u, w) [(3, .int (nI i)), (2, .ref m0), (1, .ref x0), (0, .ref b)] [] 851 := by
  subst hKl
  refine v_aload_n 852 hE dL_law_851 rfl rfl ?_
  refine v_aload_n 853 hE dL_law_852 rfl rfl ?_
  refine v_iload_n 854 hE dL_law_853 rfl rfl ?_
  refine v_iconst 855 hE (v := nI 1) dL_law_854 (by decide) rfl ?_
  refine v_iaddN 856 hE dL_law_855 rfl ?_
  refine v_sld 857 hE hC (i := i + 1) (by omega) (by omega) dL_law_856 rfl ?_
  refine v_cl 860 hE (sub_x hE) (v_runV 1 hE (sub_x hE) (kX4_residual _ (yZ D C x0 ax) u _ h.1) gL_law_X4_residual rfl (by decide +kernel) rfl (q0 := 0) rfl rfl ⟨rfl, rfl, Nat.le_of_ble_eq_true rfl, Nat.le_of_ble_eq_true rfl⟩ rfl (Nat.le_of_ble_eq_true rfl) dL_law_857) (back_x hE _) rfl ?_
  refine v_aload_n 861 hE dL_law_860 rfl rfl ?_
  refine v_aload_n 862 hE dL_law_861 rfl rfl ?_
  refine v_iload_n 863 hE dL_law_862 rfl rfl ?_
  refine v_iconst 864 hE (v := nI 1) dL_law_863 (by decide) rfl ?_
  refine v_iaddN 865 hE dL_law_864 rfl ?_
  refine v_sld 866 hE hC (i := i + 1) (by omega) (by omega) dL_law_865 rfl ?_
  refine v_cl 869 hE (sub_m hE) (v_runV 1 hE (sub_m hE) (kX5_residual _ (yM D C m0 am) w _ h.2.1) gL_law_X5_residual rfl (by decide +kernel) rfl (q0 := 0) rfl rfl ⟨rfl, rfl, Nat.le_of_ble_eq_true rfl, Nat.le_of_ble_eq_true rfl⟩ rfl (Nat.le_of_ble_eq_true rfl) dL_law_866) (back_m hE _) rfl ?_
  refine v_lc_eq 870 873 hE 889 dL_law_869 dL_law_870 (by decide) rfl rfl (fun _ => ?_) (fun e => absurd (op_res h (xs (i + 1))).1 e)
  exact hk _ _ (op_res h (xs (i + 1))).2
set_option maxRecDepth 100000 in
set_option maxHeartbeats 4000000 in
theorem law_c27 {K : vK} {l : Launch} {D : va_G} {C : Nat → ClassId} {x0 m0 : Nat} {ax : (Nat → Nat) × (Nat → Nat) × (Nat → Nat)} {am : Nat → Nat} {b L i : Nat} {xs : Nat → Int32} (hKl : K.1.1.2.1 = l) (hE : eV K (gL D C x0 ax m0 am) cL_law 4 RL wsL_law room_1) (hC : scrA K b L xs) (hi : i + 3 < L) (hL : L ≤ 2048) {u : XS} {w : MS} (h : Rel u w) (hk : ∀ (u : XS) (w : MS), Rel u w → vV K (gL D C x0 ax m0 am) (u, w) [(3, .int (nI i)), (2, .ref m0), (1, .ref x0), (0, .ref b)] [] 889) : vV K (gL D C x0 ax m0 am) (u, w) [(3, .int (nI i)), (2, .ref m0), (1, .ref x0), (0, .ref b)] [] 875 := by
  subst hKl
  refine v_aload_n 876 hE dL_law_875 rfl rfl ?_
  refine v_cl 879 hE (sub_x hE) (v_runV 0 hE (sub_x hE) (kX4_totalError _ (yZ D C x0 ax) u h.1) gL_law_X4_totalError rfl (by decide +kernel) rfl (q0 := 0) rfl rfl ⟨rfl, rfl, Nat.le_of_ble_eq_true rfl, Nat.le_of_ble_eq_true rfl⟩ rfl (Nat.le_of_ble_eq_true rfl) dL_law_876) (back_x hE _) rfl ?_
  refine v_aload_n 880 hE dL_law_879 rfl rfl ?_
  refine v_cl 883 hE (sub_m hE) (v_runV 0 hE (sub_m hE) (kX5_totalError _ (yM D C m0 am) w h.2.1) gL_law_X5_totalError rfl (by decide +kernel) rfl (q0 := 0) rfl rfl ⟨rfl, rfl, Nat.le_of_ble_eq_true rfl, Nat.le_of_ble_eq_true rfl⟩ rfl (Nat.le_of_ble_eq_true rfl) dL_law_880) (back_m hE _) rfl ?_
  refine v_lc_eq 884 887 hE 889 dL_law_883 dL_law_884 (by decide) rfl rfl (fun _ => ?_) (fun e => absurd (op_err h) e)
  exact hk _ _ h
