/-! the law, a call at a time -/
set_option maxRecDepth 100000 in
set_option maxHeartbeats 4000000 in
theorem law_c14 {K : vK} {l : Launch} {D : va_G} {C : Nat → ClassId} {x0 m0 : Nat} {ax : (Nat → Nat) × (Nat → Nat) × (Nat → Nat)} {am : Nat → Nat} {b L i : Nat} {xs : Nat → Int32} (hKl : K.1.1.2.1 = l) (hE : eV K (gL D C x0 ax m0 am) cL_law 4 RL wsL_law room_1) (hC : scrA K b L xs) (hi : i + 3 < L) (hL : L ≤ 2048) {u : XS} {w : MS} (h : Rel u w) (hk : ∀ (u : XS) (w : MS), Rel u w → vV K (gL D C x0 ax m0 am) (u, w) [(3, .int (nI i)), (2, .ref m0), (1, .ref x0), (0, .ref b)] [] 889) : vV K (gL D C x0 ax m0 am) (u, w) [(3, .int (nI i)), (2, .ref m0), (1, .ref x0), (0, .ref b)] [] 582 := by
  subst hKl
  refine v_aload_n 583 hE dL_law_582 rfl rfl ?_
  refine v_ci 586 hE (sub_x hE) (v_runV 0 hE (sub_x hE) (kX4_rank _ (yZ D C x0 ax) u h.1) gL_law_X4_rank rfl (by decide +kernel) rfl (q0 := 0) rfl rfl ⟨rfl, rfl, Nat.le_of_ble_eq_true rfl, Nat.le_of_ble_eq_true rfl⟩ rfl (Nat.le_of_ble_eq_true rfl) dL_law_583) (back_x hE _) rfl ?_
  refine v_aload_n 587 hE dL_law_586 rfl rfl ?_
  refine v_ci 590 hE (sub_m hE) (v_runV 0 hE (sub_m hE) (kX5_rank _ (yM D C m0 am) w h.2.1) gL_law_X5_rank rfl (by decide +kernel) rfl (q0 := 0) rfl rfl ⟨rfl, rfl, Nat.le_of_ble_eq_true rfl, Nat.le_of_ble_eq_true rfl⟩ rfl (Nat.le_of_ble_eq_true rfl) dL_law_587) (back_m hE _) rfl ?_
  refine v_ic_eq 593 hE 889 dL_law_590 (by decide) rfl (fun _ => ?_) (fun e => absurd (op_rank h) e)
  exact hk _ _ h
set_option maxRecDepth 100000 in
set_option maxHeartbeats 4000000 in
theorem law_c15 {K : vK} {l : Launch} {D : va_G} {C : Nat → ClassId} {x0 m0 : Nat} {ax : (Nat → Nat) × (Nat → Nat) × (Nat → Nat)} {am : Nat → Nat} {b L i : Nat} {xs : Nat → Int32} (hKl : K.1.1.2.1 = l) (hE : eV K (gL D C x0 ax m0 am) cL_law 4 RL wsL_law room_1) (hC : scrA K b L xs) (hi : i + 3 < L) (hL : L ≤ 2048) {u : XS} {w : MS} (h : Rel u w) (hk : ∀ (u : XS) (w : MS), Rel u w → vV K (gL D C x0 ax m0 am) (u, w) [(3, .int (nI i)), (2, .ref m0), (1, .ref x0), (0, .ref b)] [] 889) : vV K (gL D C x0 ax m0 am) (u, w) [(3, .int (nI i)), (2, .ref m0), (1, .ref x0), (0, .ref b)] [] 595 := by
  subst hKl
  refine v_aload_n 596 hE dL_law_595 rfl rfl ?_
  refine v_ci 599 hE (sub_x hE) (v_runV 0 hE (sub_x hE) (kX4_isConsistent _ (yZ D C x0 ax) u h.1) gL_law_X4_isConsistent rfl (by decide +kernel) rfl (q0 := 0) rfl rfl ⟨rfl, rfl, Nat.le_of_ble_eq_true rfl, Nat.le_of_ble_eq_true rfl⟩ rfl (Nat.le_of_ble_eq_true rfl) dL_law_596) (back_x hE _) rfl ?_
  refine v_aload_n 600 hE dL_law_599 rfl rfl ?_
  refine v_ci 603 hE (sub_m hE) (v_runV 0 hE (sub_m hE) (kX5_isConsistent _ (yM D C m0 am) w h.2.1) gL_law_X5_isConsistent rfl (by decide +kernel) rfl (q0 := 0) rfl rfl ⟨rfl, rfl, Nat.le_of_ble_eq_true rfl, Nat.le_of_ble_eq_true rfl⟩ rfl (Nat.le_of_ble_eq_true rfl) dL_law_600) (back_m hE _) rfl ?_
  refine v_ic_eq 606 hE 889 dL_law_603 (by decide) rfl (fun _ => ?_) (fun e => absurd (op_cons h) e)
  exact hk _ _ h
set_option maxRecDepth 100000 in
set_option maxHeartbeats 4000000 in
theorem law_c16 {K : vK} {l : Launch} {D : va_G} {C : Nat → ClassId} {x0 m0 : Nat} {ax : (Nat → Nat) × (Nat → Nat) × (Nat → Nat)} {am : Nat → Nat} {b L i : Nat} {xs : Nat → Int32} (hKl : K.1.1.2.1 = l) (hE : eV K (gL D C x0 ax m0 am) cL_law 4 RL wsL_law room_1) (hC : scrA K b L xs) (hi : i + 3 < L) (hL : L ≤ 2048) {u : XS} {w : MS} (h : Rel u w) (hk : ∀ (u : XS) (w : MS), Rel u w → vV K (gL D C x0 ax m0 am) (u, w) [(3, .int (nI i)), (2, .ref m0), (1, .ref x0), (0, .ref b)] [] 889) : vV K (gL D C x0 ax m0 am) (u, w) [(3, .int (nI i)), (2, .ref m0), (1, .ref x0), (0, .ref b)] [] 608 := by
  subst hKl
  refine v_aload_n 609 hE dL_law_608 rfl rfl ?_
  refine v_aload_n 610 hE dL_law_609 rfl rfl ?_
  refine v_iload_n 611 hE dL_law_610 rfl rfl ?_
  refine v_iconst 612 hE (v := nI 1) dL_law_611 (by decide) rfl ?_
  refine v_iaddN 613 hE dL_law_612 rfl ?_
  refine v_sld 614 hE hC (i := i + 1) (by omega) (by omega) dL_law_613 rfl ?_
  refine v_aload_n 615 hE dL_law_614 rfl rfl ?_
  refine v_iload_n 616 hE dL_law_615 rfl rfl ?_
  refine v_iconst 617 hE (v := nI 2) dL_law_616 (by decide) rfl ?_
  refine v_iaddN 618 hE dL_law_617 rfl ?_
  refine v_sld 619 hE hC (i := i + 2) (by omega) (by omega) dL_law_618 rfl ?_
  refine v_ci 622 hE (sub_x hE) (v_runV 2 hE (sub_x hE) (kX4_isIdentifiable _ (yZ D C x0 ax) u _ _ h.1) gL_law_X4_isIdentifiable rfl (by decide +kernel) rfl (q0 := 0) rfl rfl ⟨rfl, rfl, Nat.le_of_ble_eq_true rfl, Nat.le_of_ble_eq_true rfl⟩ rfl (Nat.le_of_ble_eq_true rfl) dL_law_619) (back_x hE _) rfl ?_
  refine v_aload_n 623 hE dL_law_622 rfl rfl ?_
  refine v_aload_n 624 hE dL_law_623 rfl rfl ?_
  refine v_iload_n 625 hE dL_law_624 rfl rfl ?_
  refine v_iconst 626 hE (v := nI 1) dL_law_625 (by decide) rfl ?_
  refine v_iaddN 627 hE dL_law_626 rfl ?_
  refine v_sld 628 hE hC (i := i + 1) (by omega) (by omega) dL_law_627 rfl ?_
  refine v_aload_n 629 hE dL_law_628 rfl rfl ?_
  refine v_iload_n 630 hE dL_law_629 rfl rfl ?_
  refine v_iconst 631 hE (v := nI 2) dL_law_630 (by decide) rfl ?_
  refine v_iaddN 632 hE dL_law_631 rfl ?_
  refine v_sld 633 hE hC (i := i + 2) (by omega) (by omega) dL_law_632 rfl ?_
  refine v_ci 636 hE (sub_m hE) (v_runV 2 hE (sub_m hE) (kX5_isIdentifiable _ (yM D C m0 am) w _ _ h.2.1) gL_law_X5_isIdentifiable rfl (by decide +kernel) rfl (q0 := 0) rfl rfl ⟨rfl, rfl, Nat.le_of_ble_eq_true rfl, Nat.le_of_ble_eq_true rfl⟩ rfl (Nat.le_of_ble_eq_true rfl) dL_law_633) (back_m hE _) rfl ?_
  refine v_ic_eq 639 hE 889 dL_law_636 (by decide) rfl (fun _ => ?_) (fun e => absurd (op_ident h (xs (i + 1)) (xs (i + 2))).1 e)
  exact hk _ _ (op_ident h (xs (i + 1)) (xs (i + 2))).2
set_option maxRecDepth 100000 in
set_option maxHeartbeats 4000000 in
theorem law_c17 {K : vK} {l : Launch} {D : va_G} {C : Nat → ClassId} {x0 m0 : Nat} {ax : (Nat → Nat) × (Nat → Nat) × (Nat → Nat)} {am : Nat → Nat} {b L i : Nat} {xs : Nat → Int32} (hKl : K.1.1.2.1 = l) (hE : eV K (gL D C x0 ax m0 am) cL_law 4 RL wsL_law room_1) (hC : scrA K b L xs) (hi : i + 3 < L) (hL : L ≤ 2048) {u : XS} {w : MS} (h : Rel u w) (hk : ∀ (u : XS) (w : MS), Rel u w → vV K (gL D C x0 ax m0 am) (u, w) [(3, .int (nI i)), (2, .ref m0), (1, .ref x0), (0, .ref b)] [] 889) : vV K (gL D C x0 ax m0 am) (u, w) [(3, .int (nI i)), (2, .ref m0), (1, .ref x0), (0, .ref b)] [] 641 := by
  subst hKl
  refine v_aload_n 642 hE dL_law_641 rfl rfl ?_
  refine v_ci 645 hE (sub_x hE) (v_runV 0 hE (sub_x hE) (kX4_identifiableCount _ (yZ D C x0 ax) u h.1) gL_law_X4_identifiableCount rfl (by decide +kernel) rfl (q0 := 0) rfl rfl ⟨rfl, rfl, Nat.le_of_ble_eq_true rfl, Nat.le_of_ble_eq_true rfl⟩ rfl (Nat.le_of_ble_eq_true rfl) dL_law_642) (back_x hE _) rfl ?_
  refine v_aload_n 646 hE dL_law_645 rfl rfl ?_
  refine v_ci 649 hE (sub_m hE) (v_runV 0 hE (sub_m hE) (kX5_identifiableCount _ (yM D C m0 am) w h.2.1) gL_law_X5_identifiableCount rfl (by decide +kernel) rfl (q0 := 0) rfl rfl ⟨rfl, rfl, Nat.le_of_ble_eq_true rfl, Nat.le_of_ble_eq_true rfl⟩ rfl (Nat.le_of_ble_eq_true rfl) dL_law_646) (back_m hE _) rfl ?_
  refine v_ic_eq 652 hE 889 dL_law_649 (by decide) rfl (fun _ => ?_) (fun e => absurd (op_icnt h) e)
  exact hk _ _ h
set_option maxRecDepth 100000 in
set_option maxHeartbeats 4000000 in
theorem law_c18 {K : vK} {l : Launch} {D : va_G} {C : Nat → ClassId} {x0 m0 : Nat} {ax : (Nat → Nat) × (Nat → Nat) × (Nat → Nat)} {am : Nat → Nat} {b L i : Nat} {xs : Nat → Int32} (hKl : K.1.1.2.1 = l) (hE : eV K (gL D C x0 ax m0 am) cL_law 4 RL wsL_law room_1) (hC : scrA K b L xs) (hi : i + 3 < L) (hL : L ≤ 2048) {u : XS} {w : MS} (h : Rel u w) (hk : ∀ (u : XS) (w : MS), Rel u w → vV K (gL D C x0 ax m0 am) (u, w) [(3, .int (nI i)), (2, .ref m0), (1, .ref x0), (0, .ref b)] [] 889) : vV K (gL D C x0 ax m0 am) (u, w) [(3, .int (nI i)), (2, .ref m0), (1, .ref x0), (0, .ref b)] [] 654 := by
  subst hKl
  refine v_aload_n 655 hE dL_law_654 rfl rfl ?_
  refine v_aload_n 656 hE dL_law_655 rfl rfl ?_
  refine v_iload_n 657 hE dL_law_656 rfl rfl ?_
  refine v_iconst 658 hE (v := nI 1) dL_law_657 (by decide) rfl ?_
  refine v_iaddN 659 hE dL_law_658 rfl ?_
  refine v_sld 660 hE hC (i := i + 1) (by omega) (by omega) dL_law_659 rfl ?_
  refine v_aload_n 661 hE dL_law_660 rfl rfl ?_
  refine v_iload_n 662 hE dL_law_661 rfl rfl ?_
  refine v_iconst 663 hE (v := nI 2) dL_law_662 (by decide) rfl ?_
  refine v_iaddN 664 hE dL_law_663 rfl ?_
  refine v_sld 665 hE hC (i := i + 2) (by omega) (by omega) dL_law_664 rfl ?_
  refine v_cl 668 hE (sub_x hE) (v_runV 2 hE (sub_x hE) (kX4_identifiedNumerator _ (yZ D C x0 ax) u _ _ h.1) gL_law_X4_identifiedNumerator rfl (by decide +kernel) rfl (q0 := 0) rfl rfl ⟨rfl, rfl, Nat.le_of_ble_eq_true rfl, Nat.le_of_ble_eq_true rfl⟩ rfl (Nat.le_of_ble_eq_true rfl) dL_law_665) (back_x hE _) rfl ?_
  refine v_aload_n 669 hE dL_law_668 rfl rfl ?_
  refine v_aload_n 670 hE dL_law_669 rfl rfl ?_
  refine v_iload_n 671 hE dL_law_670 rfl rfl ?_
  refine v_iconst 672 hE (v := nI 1) dL_law_671 (by decide) rfl ?_
  refine v_iaddN 673 hE dL_law_672 rfl ?_
  refine v_sld 674 hE hC (i := i + 1) (by omega) (by omega) dL_law_673 rfl ?_
  refine v_aload_n 675 hE dL_law_674 rfl rfl ?_
  refine v_iload_n 676 hE dL_law_675 rfl rfl ?_
  refine v_iconst 677 hE (v := nI 2) dL_law_676 (by decide) rfl ?_
  refine v_iaddN 678 hE dL_law_677 rfl ?_
  refine v_sld 679 hE hC (i := i + 2) (by omega) (by omega) dL_law_678 rfl ?_
  refine v_cl 682 hE (sub_m hE) (v_runV 2 hE (sub_m hE) (kX5_identifiedNumerator _ (yM D C m0 am) w _ _ h.2.1 (op_piv h)) gL_law_X5_identifiedNumerator rfl (by decide +kernel) rfl (q0 := 0) rfl rfl ⟨rfl, rfl, Nat.le_of_ble_eq_true rfl, Nat.le_of_ble_eq_true rfl⟩ rfl (Nat.le_of_ble_eq_true rfl) dL_law_679) (back_m hE _) rfl ?_
  refine v_lc_eq 683 686 hE 889 dL_law_682 dL_law_683 (by decide) rfl rfl (fun _ => ?_) (fun e => absurd (op_num h (xs (i + 1)) (xs (i + 2))).1 e)
  exact hk _ _ (op_num h (xs (i + 1)) (xs (i + 2))).2.2.1
set_option maxRecDepth 100000 in
set_option maxHeartbeats 4000000 in
theorem law_c19 {K : vK} {l : Launch} {D : va_G} {C : Nat → ClassId} {x0 m0 : Nat} {ax : (Nat → Nat) × (Nat → Nat) × (Nat → Nat)} {am : Nat → Nat} {b L i : Nat} {xs : Nat → Int32} (hKl : K.1.1.2.1 = l) (hE : eV K (gL D C x0 ax m0 am) cL_law 4 RL wsL_law room_1) (hC : scrA K b L xs) (hi : i + 3 < L) (hL : L ≤ 2048) {u : XS} {w : MS} (h : Rel u w) (hk : ∀ (u : XS) (w : MS), Rel u w → vV K (gL D C x0 ax m0 am) (u, w) [(3, .int (nI i)), (2, .ref m0), (1, .ref x0), (0, .ref b)] [] 889) : vV K (gL D C x0 ax m0 am) (u, w) [(3, .int (nI i)), (2, .ref m0), (1, .ref x0), (0, .ref b)] [] 688 := by
  subst hKl
  refine v_aload_n 689 hE dL_law_688 rfl rfl ?_
  refine v_aload_n 690 hE dL_law_689 rfl rfl ?_
  refine v_iload_n 691 hE dL_law_690 rfl rfl ?_
  refine v_iconst 692 hE (v := nI 1) dL_law_691 (by decide) rfl ?_
  refine v_iaddN 693 hE dL_law_692 rfl ?_
  refine v_sld 694 hE hC (i := i + 1) (by omega) (by omega) dL_law_693 rfl ?_
  refine v_aload_n 695 hE dL_law_694 rfl rfl ?_
  refine v_iload_n 696 hE dL_law_695 rfl rfl ?_
  refine v_iconst 697 hE (v := nI 2) dL_law_696 (by decide) rfl ?_
  refine v_iaddN 698 hE dL_law_697 rfl ?_
  refine v_sld 699 hE hC (i := i + 2) (by omega) (by omega) dL_law_698 rfl ?_
  refine v_cl 702 hE (sub_x hE) (v_runV 2 hE (sub_x hE) (kX4_identifiedDenominator _ (yZ D C x0 ax) u _ _ h.1) gL_law_X4_identifiedDenominator rfl (by decide +kernel) rfl (q0 := 0) rfl rfl ⟨rfl, rfl, Nat.le_of_ble_eq_true rfl, Nat.le_of_ble_eq_true rfl⟩ rfl (Nat.le_of_ble_eq_true rfl) dL_law_699) (back_x hE _) rfl ?_
  refine v_aload_n 703 hE dL_law_702 rfl rfl ?_
  refine v_aload_n 704 hE dL_law_703 rfl rfl ?_
  refine v_iload_n 705 hE dL_law_704 rfl rfl ?_
  refine v_iconst 706 hE (v := nI 1) dL_law_705 (by decide) rfl ?_
  refine v_iaddN 707 hE dL_law_706 rfl ?_
  refine v_sld 708 hE hC (i := i + 1) (by omega) (by omega) dL_law_707 rfl ?_
  refine v_aload_n 709 hE dL_law_708 rfl rfl ?_
  refine v_iload_n 710 hE dL_law_709 rfl rfl ?_
  refine v_iconst 711 hE (v := nI 2) dL_law_710 (by decide) rfl ?_
  refine v_iaddN 712 hE dL_law_711 rfl ?_
  refine v_sld 713 hE hC (i := i + 2) (by omega) (by omega) dL_law_712 rfl ?_
  refine v_cl 716 hE (sub_m hE) (v_runV 2 hE (sub_m hE) (kX5_identifiedDenominator _ (yM D C m0 am) w _ _ h.2.1 (op_piv h)) gL_law_X5_identifiedDenominator rfl (by decide +kernel) rfl (q0 := 0) rfl rfl ⟨rfl, rfl, Nat.le_of_ble_eq_true rfl, Nat.le_of_ble_eq_true rfl⟩ rfl (Nat.le_of_ble_eq_true rfl) dL_law_713) (back_m hE _) rfl ?_
  refine v_lc_eq 717 720 hE 889 dL_law_716 dL_law_717 (by decide) rfl rfl (fun _ => ?_) (fun e => absurd (op_num h (xs (i + 1)) (xs (i + 2))).2.1 e)
  exact hk _ _ (op_num h (xs (i + 1)) (xs (i + 2))).2.2.2
set_option maxRecDepth 100000 in
set_option maxHeartbeats 4000000 in
theorem law_c20 {K : vK} {l : Launch} {D : va_G} {C : Nat → ClassId} {x0 m0 : Nat} {ax : (Nat → Nat) × (Nat → Nat) × (Nat → Nat)} {am : Nat → Nat} {b L i : Nat} {xs : Nat → Int32} (hKl : K.1.1.2.1 = l) (hE : eV K (gL D C x0 ax m0 am) cL_law 4 RL wsL_law room_1) (hC : scrA K b L xs) (hi : i + 3 < L) (hL : L ≤ 2048) {u : XS} {w : MS} (h : Rel u w) (hk : ∀ (u : XS) (w : MS), Rel u w → vV K (gL D C x0 ax m0 am) (u, w) [(3, .int (nI i)), (2, .ref m0), (1, .ref x0), (0, .ref b)] [] 889) : vV K (gL D C x0 ax m0 am) (u, w) [(3, .int (nI i)), (2, .ref m0), (1, .ref x0), (0, .ref b)] [] 722 := by
  subst hKl
  refine v_aload_n 723 hE dL_law_722 rfl rfl ?_
  refine v_ci 726 hE (sub_x hE) (v_runV 0 hE (sub_x hE) (kX4_bestPair _ (yZ D C x0 ax) u h.1) gL_law_X4_bestPair rfl (by decide +kernel) rfl (q0 := 0) rfl rfl ⟨rfl, rfl, Nat.le_of_ble_eq_true rfl, Nat.le_of_ble_eq_true rfl⟩ rfl (Nat.le_of_ble_eq_true rfl) dL_law_723) (back_x hE _) rfl ?_
  refine v_aload_n 727 hE dL_law_726 rfl rfl ?_
  refine v_ci 730 hE (sub_m hE) (v_runV 0 hE (sub_m hE) (kX5_bestPair _ (yM D C m0 am) w h.2.1) gL_law_X5_bestPair rfl (by decide +kernel) rfl (q0 := 0) rfl rfl ⟨rfl, rfl, Nat.le_of_ble_eq_true rfl, Nat.le_of_ble_eq_true rfl⟩ rfl (Nat.le_of_ble_eq_true rfl) dL_law_727) (back_m hE _) rfl ?_
  refine v_ic_eq 733 hE 889 dL_law_730 (by decide) rfl (fun _ => ?_) (fun e => absurd (op_best h).1 e)
  exact hk _ _ (op_best h).2
