/-! own text: the law, case by case -/
section Law20b
variable {K : Kx} {N : Nm} {g : Ge} {Pq : Int → Nm → Ge → Prop}
theorem law_9 {n : Nat} (hI : Inv N g) (hr : ∀ j, rI (N 61 0 j)) (hn : 6 * n + 6 ≤ (N 61 1 0).toNat) (hl : (N 61 1 0).toNat ≤ 3072) (next : ∀ N' g', Fin2 N N' g' → AW K YL_law hL_law (qI Pq) 2059 [some (vr 61 0), some (vr 0 0), some (vr 40 0), some (vr 60 0), some (vi (6 * (n : Int))), none, none] [] N' g') : AW K YL_law hL_law (qI Pq) 582 [some (vr 61 0), some (vr 0 0), some (vr 40 0), some (vr 60 0), some (vi (6 * (n : Int))), none, none] [] N g := by
  obtain ⟨d, wg, p, T, L, h⟩ := hI
  refine ld_a1 iL_law_582 ?_
  refine ld_a0 iL_law_583 ?_
  refine ld_i4 iL_law_584 ?_
  refine r_iconst iL_law_586 ?_
  refine r_iadd iL_law_587 ?_
  refine al_61 (n := (6 * n + 1)) (by omega) (by omega) (by omega) iL_law_588 ?_
  refine ld_a0 iL_law_589 ?_
  refine ld_i4 iL_law_590 ?_
  refine r_iconst iL_law_592 ?_
  refine r_iadd iL_law_593 ?_
  refine al_61 (n := (6 * n + 2)) (by omega) (by omega) (by omega) iL_law_594 ?_
  refine xX9_which kML_66 iL_law_595 (by decide) (Nat.le_of_ble_eq_true rfl) rfl rfl ?_
  refine Ck.mapI ?_ (q_which h (hr _) (hr _))
  rintro z N1 g1 ⟨s1, hm⟩
  have s61 := s1.1 1 0
  refine ld_a2 iL_law_598 ?_
  refine ld_a0 iL_law_599 ?_
  refine ld_i4 iL_law_600 ?_
  refine r_iconst iL_law_602 ?_
  refine r_iadd iL_law_603 ?_
  refine al_61 (n := (6 * n + 1)) (by omega) (by omega) (by omega) iL_law_604 ?_
  rw [s1.1 0 (6 * n + 1)]
  refine ld_a0 iL_law_605 ?_
  refine ld_i4 iL_law_606 ?_
  refine r_iconst iL_law_608 ?_
  refine r_iadd iL_law_609 ?_
  refine al_61 (n := (6 * n + 2)) (by omega) (by omega) (by omega) iL_law_610 ?_
  rw [s1.1 0 (6 * n + 2)]
  refine xX10_which kML_69 iL_law_611 (by decide) (Nat.le_of_ble_eq_true rfl) rfl rfl ?_
  refine Ck.mapI ?_ hm
  rintro z2 N2 g2 ⟨e2, hf⟩
  subst e2
  refine r_icmpeqS iL_law_614 ?_
  exact next _ _ hf
theorem law_10 {n : Nat} (hI : Inv N g) (hr : ∀ j, rI (N 61 0 j)) (hn : 6 * n + 6 ≤ (N 61 1 0).toNat) (hl : (N 61 1 0).toNat ≤ 3072) (next : ∀ N' g', Fin2 N N' g' → AW K YL_law hL_law (qI Pq) 2059 [some (vr 61 0), some (vr 0 0), some (vr 40 0), some (vr 60 0), some (vi (6 * (n : Int))), none, none] [] N' g') : AW K YL_law hL_law (qI Pq) 619 [some (vr 61 0), some (vr 0 0), some (vr 40 0), some (vr 60 0), some (vi (6 * (n : Int))), none, none] [] N g := by
  obtain ⟨d, wg, p, T, L, h⟩ := hI
  refine ld_a1 iL_law_619 ?_
  refine ld_a0 iL_law_620 ?_
  refine ld_i4 iL_law_621 ?_
  refine r_iconst iL_law_623 ?_
  refine r_iadd iL_law_624 ?_
  refine al_61 (n := (6 * n + 1)) (by omega) (by omega) (by omega) iL_law_625 ?_
  refine ld_a0 iL_law_626 ?_
  refine ld_i4 iL_law_627 ?_
  refine r_iconst iL_law_629 ?_
  refine r_iadd iL_law_630 ?_
  refine al_61 (n := (6 * n + 2)) (by omega) (by omega) (by omega) iL_law_631 ?_
  refine ld_a0 iL_law_632 ?_
  refine ld_i4 iL_law_633 ?_
  refine r_iconst iL_law_635 ?_
  refine r_iadd iL_law_636 ?_
  refine al_61 (n := (6 * n + 3)) (by omega) (by omega) (by omega) iL_law_637 ?_
  refine xX9_piece kML_70 iL_law_638 (by decide) (Nat.le_of_ble_eq_true rfl) rfl rfl ?_
  refine Ck.mapL ?_ (q_piece h (hr _) (hr _) (hr _))
  rintro z N1 g1 ⟨s1, hm⟩
  have s61 := s1.1 1 0
  refine ld_a2 iL_law_641 ?_
  refine ld_a0 iL_law_642 ?_
  refine ld_i4 iL_law_643 ?_
  refine r_iconst iL_law_645 ?_
  refine r_iadd iL_law_646 ?_
  refine al_61 (n := (6 * n + 1)) (by omega) (by omega) (by omega) iL_law_647 ?_
  rw [s1.1 0 (6 * n + 1)]
  refine ld_a0 iL_law_648 ?_
  refine ld_i4 iL_law_649 ?_
  refine r_iconst iL_law_651 ?_
  refine r_iadd iL_law_652 ?_
  refine al_61 (n := (6 * n + 2)) (by omega) (by omega) (by omega) iL_law_653 ?_
  rw [s1.1 0 (6 * n + 2)]
  refine ld_a0 iL_law_654 ?_
  refine ld_i4 iL_law_655 ?_
  refine r_iconst iL_law_657 ?_
  refine r_iadd iL_law_658 ?_
  refine al_61 (n := (6 * n + 3)) (by omega) (by omega) (by omega) iL_law_659 ?_
  rw [s1.1 0 (6 * n + 3)]
  refine xX10_piece kML_74 iL_law_660 (by decide) (Nat.le_of_ble_eq_true rfl) rfl rfl ?_
  refine Ck.mapL ?_ hm
  rintro z2 N2 g2 ⟨e2, hf⟩
  subst e2
  refine r_lcmpS iL_law_663 ?_
  refine r_ifeq iL_law_664 (by omega) (fun h664 => ?_) (fun h664 => ?_)
  · exact next _ _ hf
  · exact absurd rfl h664
theorem law_11 {n : Nat} (hI : Inv N g) (hr : ∀ j, rI (N 61 0 j)) (hn : 6 * n + 6 ≤ (N 61 1 0).toNat) (hl : (N 61 1 0).toNat ≤ 3072) (next : ∀ N' g', Fin2 N N' g' → AW K YL_law hL_law (qI Pq) 2059 [some (vr 61 0), some (vr 0 0), some (vr 40 0), some (vr 60 0), some (vi (6 * (n : Int))), none, none] [] N' g') : AW K YL_law hL_law (qI Pq) 669 [some (vr 61 0), some (vr 0 0), some (vr 40 0), some (vr 60 0), some (vi (6 * (n : Int))), none, none] [] N g := by
  obtain ⟨d, wg, p, T, L, h⟩ := hI
  refine ld_a1 iL_law_669 ?_
  refine ld_a0 iL_law_670 ?_
  refine ld_i4 iL_law_671 ?_
  refine r_iconst iL_law_673 ?_
  refine r_iadd iL_law_674 ?_
  refine al_61 (n := (6 * n + 1)) (by omega) (by omega) (by omega) iL_law_675 ?_
  refine ld_a0 iL_law_676 ?_
  refine ld_i4 iL_law_677 ?_
  refine r_iconst iL_law_679 ?_
  refine r_iadd iL_law_680 ?_
  refine al_61 (n := (6 * n + 2)) (by omega) (by omega) (by omega) iL_law_681 ?_
  refine xX9_pieceAt kML_75 iL_law_682 (by decide) (Nat.le_of_ble_eq_true rfl) rfl rfl ?_
  refine Ck.mapI ?_ (q_pieceAt h (hr _) (hr _))
  rintro z N1 g1 ⟨s1, hm⟩
  have s61 := s1.1 1 0
  refine ld_a2 iL_law_685 ?_
  refine ld_a0 iL_law_686 ?_
  refine ld_i4 iL_law_687 ?_
  refine r_iconst iL_law_689 ?_
  refine r_iadd iL_law_690 ?_
  refine al_61 (n := (6 * n + 1)) (by omega) (by omega) (by omega) iL_law_691 ?_
  rw [s1.1 0 (6 * n + 1)]
  refine ld_a0 iL_law_692 ?_
  refine ld_i4 iL_law_693 ?_
  refine r_iconst iL_law_695 ?_
  refine r_iadd iL_law_696 ?_
  refine al_61 (n := (6 * n + 2)) (by omega) (by omega) (by omega) iL_law_697 ?_
  rw [s1.1 0 (6 * n + 2)]
  refine xX10_pieceAt kML_78 iL_law_698 (by decide) (Nat.le_of_ble_eq_true rfl) rfl rfl ?_
  refine Ck.mapI ?_ hm
  rintro z2 N2 g2 ⟨e2, hf⟩
  subst e2
  refine r_icmpeqS iL_law_701 ?_
  exact next _ _ hf
theorem law_12 {n : Nat} (hI : Inv N g) (hr : ∀ j, rI (N 61 0 j)) (hn : 6 * n + 6 ≤ (N 61 1 0).toNat) (hl : (N 61 1 0).toNat ≤ 3072) (next : ∀ N' g', Fin2 N N' g' → AW K YL_law hL_law (qI Pq) 2059 [some (vr 61 0), some (vr 0 0), some (vr 40 0), some (vr 60 0), some (vi (6 * (n : Int))), none, none] [] N' g') : AW K YL_law hL_law (qI Pq) 706 [some (vr 61 0), some (vr 0 0), some (vr 40 0), some (vr 60 0), some (vi (6 * (n : Int))), none, none] [] N g := by
  obtain ⟨d, wg, p, T, L, h⟩ := hI
  refine ld_a1 iL_law_706 ?_
  refine ld_a0 iL_law_707 ?_
  refine ld_i4 iL_law_708 ?_
  refine r_iconst iL_law_710 ?_
  refine r_iadd iL_law_711 ?_
  refine al_61 (n := (6 * n + 1)) (by omega) (by omega) (by omega) iL_law_712 ?_
  refine r_i2l (by exact hr _) iL_law_713 ?_
  refine r_bipush (by decide) iL_law_714 ?_
  refine r_lshl (z := l32 (N 61 0 (6 * n + 1))) (ofL _).symm iL_law_716 ?_
  refine ld_a0 iL_law_717 ?_
  refine ld_i4 iL_law_718 ?_
  refine r_iconst iL_law_720 ?_
  refine r_iadd iL_law_721 ?_
  refine al_61 (n := (6 * n + 2)) (by omega) (by omega) (by omega) iL_law_722 ?_
  refine r_i2l (by exact hr _) iL_law_723 ?_
  refine r_ldc2 (z := 4294967295) kKL_79 (by decide) iL_law_724 ?_
  refine r_land (z := lo32 (N 61 0 (6 * n + 2))) (ofL _).symm iL_law_727 ?_
  refine r_lor (z := lgA (N 61 0 (6 * n + 1)) (N 61 0 (6 * n + 2))) (ofL _).symm iL_law_728 ?_
  refine ld_a0 iL_law_729 ?_
  refine ld_i4 iL_law_730 ?_
  refine r_iconst iL_law_732 ?_
  refine r_iadd iL_law_733 ?_
  refine al_61 (n := (6 * n + 3)) (by omega) (by omega) (by omega) iL_law_734 ?_
  refine xX9_promised kML_81 iL_law_735 (by decide) (Nat.le_of_ble_eq_true rfl) rfl rfl ?_
  refine Ck.mapI ?_ (q_promised h (lgA_r _ _) (hr _))
  rintro z N1 g1 ⟨s1, hm⟩
  have s61 := s1.1 1 0
  refine ld_a2 iL_law_738 ?_
  refine ld_a0 iL_law_739 ?_
  refine ld_i4 iL_law_740 ?_
  refine r_iconst iL_law_742 ?_
  refine r_iadd iL_law_743 ?_
  refine al_61 (n := (6 * n + 1)) (by omega) (by omega) (by omega) iL_law_744 ?_
  rw [s1.1 0 (6 * n + 1)]
  refine r_i2l (by exact hr _) iL_law_745 ?_
  refine r_bipush (by decide) iL_law_746 ?_
  refine r_lshl (z := l32 (N 61 0 (6 * n + 1))) (ofL _).symm iL_law_748 ?_
  refine ld_a0 iL_law_749 ?_
  refine ld_i4 iL_law_750 ?_
  refine r_iconst iL_law_752 ?_
  refine r_iadd iL_law_753 ?_
  refine al_61 (n := (6 * n + 2)) (by omega) (by omega) (by omega) iL_law_754 ?_
  rw [s1.1 0 (6 * n + 2)]
  refine r_i2l (by exact hr _) iL_law_755 ?_
  refine r_ldc2 (z := 4294967295) kKL_79 (by decide) iL_law_756 ?_
  refine r_land (z := lo32 (N 61 0 (6 * n + 2))) (ofL _).symm iL_law_759 ?_
  refine r_lor (z := lgA (N 61 0 (6 * n + 1)) (N 61 0 (6 * n + 2))) (ofL _).symm iL_law_760 ?_
  refine ld_a0 iL_law_761 ?_
  refine ld_i4 iL_law_762 ?_
  refine r_iconst iL_law_764 ?_
  refine r_iadd iL_law_765 ?_
  refine al_61 (n := (6 * n + 3)) (by omega) (by omega) (by omega) iL_law_766 ?_
  rw [s1.1 0 (6 * n + 3)]
  refine xX10_promised kML_85 iL_law_767 (by decide) (Nat.le_of_ble_eq_true rfl) rfl rfl ?_
  refine Ck.mapI ?_ hm
  rintro z2 N2 g2 ⟨e2, hf⟩
  subst e2
  refine r_icmpeqS iL_law_770 ?_
  exact next _ _ hf
theorem law_13 {n : Nat} (hI : Inv N g) (hr : ∀ j, rI (N 61 0 j)) (hn : 6 * n + 6 ≤ (N 61 1 0).toNat) (hl : (N 61 1 0).toNat ≤ 3072) (next : ∀ N' g', Fin2 N N' g' → AW K YL_law hL_law (qI Pq) 2059 [some (vr 61 0), some (vr 0 0), some (vr 40 0), some (vr 60 0), some (vi (6 * (n : Int))), none, none] [] N' g') : AW K YL_law hL_law (qI Pq) 775 [some (vr 61 0), some (vr 0 0), some (vr 40 0), some (vr 60 0), some (vi (6 * (n : Int))), none, none] [] N g := by
  obtain ⟨d, wg, p, T, L, h⟩ := hI
  refine ld_a1 iL_law_775 ?_
  refine ld_a0 iL_law_776 ?_
  refine ld_i4 iL_law_777 ?_
  refine r_iconst iL_law_779 ?_
  refine r_iadd iL_law_780 ?_
  refine al_61 (n := (6 * n + 1)) (by omega) (by omega) (by omega) iL_law_781 ?_
  refine r_i2l (by exact hr _) iL_law_782 ?_
  refine r_bipush (by decide) iL_law_783 ?_
  refine r_lshl (z := l32 (N 61 0 (6 * n + 1))) (ofL _).symm iL_law_785 ?_
  refine ld_a0 iL_law_786 ?_
  refine ld_i4 iL_law_787 ?_
  refine r_iconst iL_law_789 ?_
  refine r_iadd iL_law_790 ?_
  refine al_61 (n := (6 * n + 2)) (by omega) (by omega) (by omega) iL_law_791 ?_
  refine r_i2l (by exact hr _) iL_law_792 ?_
  refine r_ldc2 (z := 4294967295) kKL_79 (by decide) iL_law_793 ?_
  refine r_land (z := lo32 (N 61 0 (6 * n + 2))) (ofL _).symm iL_law_796 ?_
  refine r_lor (z := lgA (N 61 0 (6 * n + 1)) (N 61 0 (6 * n + 2))) (ofL _).symm iL_law_797 ?_
  refine ld_a0 iL_law_798 ?_
  refine ld_i4 iL_law_799 ?_
  refine r_iconst iL_law_801 ?_
  refine r_iadd iL_law_802 ?_
  refine al_61 (n := (6 * n + 3)) (by omega) (by omega) (by omega) iL_law_803 ?_
  refine xX9_exactly kML_86 iL_law_804 (by decide) (Nat.le_of_ble_eq_true rfl) rfl rfl ?_
  refine Ck.mapI ?_ (q_exactly h (lgA_r _ _) (hr _))
  rintro z N1 g1 ⟨s1, hm⟩
  have s61 := s1.1 1 0
  refine ld_a2 iL_law_807 ?_
  refine ld_a0 iL_law_808 ?_
  refine ld_i4 iL_law_809 ?_
  refine r_iconst iL_law_811 ?_
  refine r_iadd iL_law_812 ?_
  refine al_61 (n := (6 * n + 1)) (by omega) (by omega) (by omega) iL_law_813 ?_
  rw [s1.1 0 (6 * n + 1)]
  refine r_i2l (by exact hr _) iL_law_814 ?_
  refine r_bipush (by decide) iL_law_815 ?_
  refine r_lshl (z := l32 (N 61 0 (6 * n + 1))) (ofL _).symm iL_law_817 ?_
  refine ld_a0 iL_law_818 ?_
  refine ld_i4 iL_law_819 ?_
  refine r_iconst iL_law_821 ?_
  refine r_iadd iL_law_822 ?_
  refine al_61 (n := (6 * n + 2)) (by omega) (by omega) (by omega) iL_law_823 ?_
  rw [s1.1 0 (6 * n + 2)]
  refine r_i2l (by exact hr _) iL_law_824 ?_
  refine r_ldc2 (z := 4294967295) kKL_79 (by decide) iL_law_825 ?_
  refine r_land (z := lo32 (N 61 0 (6 * n + 2))) (ofL _).symm iL_law_828 ?_
  refine r_lor (z := lgA (N 61 0 (6 * n + 1)) (N 61 0 (6 * n + 2))) (ofL _).symm iL_law_829 ?_
  refine ld_a0 iL_law_830 ?_
  refine ld_i4 iL_law_831 ?_
  refine r_iconst iL_law_833 ?_
  refine r_iadd iL_law_834 ?_
  refine al_61 (n := (6 * n + 3)) (by omega) (by omega) (by omega) iL_law_835 ?_
  rw [s1.1 0 (6 * n + 3)]
  refine xX10_exactly kML_89 iL_law_836 (by decide) (Nat.le_of_ble_eq_true rfl) rfl rfl ?_
  refine Ck.mapI ?_ hm
  rintro z2 N2 g2 ⟨e2, hf⟩
  subst e2
  refine r_icmpeqS iL_law_839 ?_
  exact next _ _ hf
theorem law_14 {n : Nat} (hI : Inv N g) (hr : ∀ j, rI (N 61 0 j)) (hn : 6 * n + 6 ≤ (N 61 1 0).toNat) (hl : (N 61 1 0).toNat ≤ 3072) (next : ∀ N' g', Fin2 N N' g' → AW K YL_law hL_law (qI Pq) 2059 [some (vr 61 0), some (vr 0 0), some (vr 40 0), some (vr 60 0), some (vi (6 * (n : Int))), none, none] [] N' g') : AW K YL_law hL_law (qI Pq) 844 [some (vr 61 0), some (vr 0 0), some (vr 40 0), some (vr 60 0), some (vi (6 * (n : Int))), none, none] [] N g := by
  obtain ⟨d, wg, p, T, L, h⟩ := hI
  refine ld_a1 iL_law_844 ?_
  refine ld_a0 iL_law_845 ?_
  refine ld_i4 iL_law_846 ?_
  refine r_iconst iL_law_848 ?_
  refine r_iadd iL_law_849 ?_
  refine al_61 (n := (6 * n + 1)) (by omega) (by omega) (by omega) iL_law_850 ?_
  refine ld_a0 iL_law_851 ?_
  refine ld_i4 iL_law_852 ?_
  refine r_iconst iL_law_854 ?_
  refine r_iadd iL_law_855 ?_
  refine al_61 (n := (6 * n + 2)) (by omega) (by omega) (by omega) iL_law_856 ?_
  refine xX9_cliff kML_90 iL_law_857 (by decide) (Nat.le_of_ble_eq_true rfl) rfl rfl ?_
  refine Ck.mapL ?_ (q_cliff h (hr _) (hr _))
  rintro z N1 g1 ⟨s1, hm⟩
  have s61 := s1.1 1 0
  refine ld_a2 iL_law_860 ?_
  refine ld_a0 iL_law_861 ?_
  refine ld_i4 iL_law_862 ?_
  refine r_iconst iL_law_864 ?_
  refine r_iadd iL_law_865 ?_
  refine al_61 (n := (6 * n + 1)) (by omega) (by omega) (by omega) iL_law_866 ?_
  rw [s1.1 0 (6 * n + 1)]
  refine ld_a0 iL_law_867 ?_
  refine ld_i4 iL_law_868 ?_
  refine r_iconst iL_law_870 ?_
  refine r_iadd iL_law_871 ?_
  refine al_61 (n := (6 * n + 2)) (by omega) (by omega) (by omega) iL_law_872 ?_
  rw [s1.1 0 (6 * n + 2)]
  refine xX10_cliff kML_93 iL_law_873 (by decide) (Nat.le_of_ble_eq_true rfl) rfl rfl ?_
  refine Ck.mapL ?_ hm
  rintro z2 N2 g2 ⟨e2, hf⟩
  subst e2
  refine r_lcmpS iL_law_876 ?_
  refine r_ifeq iL_law_877 (by omega) (fun h877 => ?_) (fun h877 => ?_)
  · exact next _ _ hf
  · exact absurd rfl h877
theorem law_15 {n : Nat} (hI : Inv N g) (hr : ∀ j, rI (N 61 0 j)) (hn : 6 * n + 6 ≤ (N 61 1 0).toNat) (hl : (N 61 1 0).toNat ≤ 3072) (next : ∀ N' g', Fin2 N N' g' → AW K YL_law hL_law (qI Pq) 2059 [some (vr 61 0), some (vr 0 0), some (vr 40 0), some (vr 60 0), some (vi (6 * (n : Int))), none, none] [] N' g') : AW K YL_law hL_law (qI Pq) 882 [some (vr 61 0), some (vr 0 0), some (vr 40 0), some (vr 60 0), some (vi (6 * (n : Int))), none, none] [] N g := by
  obtain ⟨d, wg, p, T, L, h⟩ := hI
  refine ld_a1 iL_law_882 ?_
  refine ld_a0 iL_law_883 ?_
  refine ld_i4 iL_law_884 ?_
  refine r_iconst iL_law_886 ?_
  refine r_iadd iL_law_887 ?_
  refine al_61 (n := (6 * n + 1)) (by omega) (by omega) (by omega) iL_law_888 ?_
  refine xX9_more kML_94 iL_law_889 (by decide) (Nat.le_of_ble_eq_true rfl) rfl rfl ?_
  refine Ck.mapL ?_ (q_more h (hr _))
  rintro z N1 g1 ⟨s1, hm⟩
  have s61 := s1.1 1 0
  refine ld_a2 iL_law_892 ?_
  refine ld_a0 iL_law_893 ?_
  refine ld_i4 iL_law_894 ?_
  refine r_iconst iL_law_896 ?_
  refine r_iadd iL_law_897 ?_
  refine al_61 (n := (6 * n + 1)) (by omega) (by omega) (by omega) iL_law_898 ?_
  rw [s1.1 0 (6 * n + 1)]
  refine xX10_more kML_98 iL_law_899 (by decide) (Nat.le_of_ble_eq_true rfl) rfl rfl ?_
  refine Ck.mapL ?_ hm
  rintro z2 N2 g2 ⟨e2, hf⟩
  subst e2
  refine r_lcmpS iL_law_902 ?_
  refine r_ifeq iL_law_903 (by omega) (fun h903 => ?_) (fun h903 => ?_)
  · exact next _ _ hf
  · exact absurd rfl h903
theorem law_16 {n : Nat} (hI : Inv N g) (hr : ∀ j, rI (N 61 0 j)) (hn : 6 * n + 6 ≤ (N 61 1 0).toNat) (hl : (N 61 1 0).toNat ≤ 3072) (next : ∀ N' g', Fin2 N N' g' → AW K YL_law hL_law (qI Pq) 2059 [some (vr 61 0), some (vr 0 0), some (vr 40 0), some (vr 60 0), some (vi (6 * (n : Int))), none, none] [] N' g') : AW K YL_law hL_law (qI Pq) 908 [some (vr 61 0), some (vr 0 0), some (vr 40 0), some (vr 60 0), some (vi (6 * (n : Int))), none, none] [] N g := by
  obtain ⟨d, wg, p, T, L, h⟩ := hI
  refine ld_a1 iL_law_908 ?_
  refine ld_a0 iL_law_909 ?_
  refine ld_i4 iL_law_910 ?_
  refine r_iconst iL_law_912 ?_
  refine r_iadd iL_law_913 ?_
  refine al_61 (n := (6 * n + 1)) (by omega) (by omega) (by omega) iL_law_914 ?_
  refine xX9_average kML_99 iL_law_915 (by decide) (Nat.le_of_ble_eq_true rfl) rfl rfl ?_
  refine Ck.mapL ?_ (q_average h (hr _))
  rintro z N1 g1 ⟨s1, hm⟩
  have s61 := s1.1 1 0
  refine ld_a2 iL_law_918 ?_
  refine ld_a0 iL_law_919 ?_
  refine ld_i4 iL_law_920 ?_
  refine r_iconst iL_law_922 ?_
  refine r_iadd iL_law_923 ?_
  refine al_61 (n := (6 * n + 1)) (by omega) (by omega) (by omega) iL_law_924 ?_
  rw [s1.1 0 (6 * n + 1)]
  refine xX10_average kML_102 iL_law_925 (by decide) (Nat.le_of_ble_eq_true rfl) rfl rfl ?_
  refine Ck.mapL ?_ hm
  rintro z2 N2 g2 ⟨e2, hf⟩
  subst e2
  refine r_lcmpS iL_law_928 ?_
  refine r_ifeq iL_law_929 (by omega) (fun h929 => ?_) (fun h929 => ?_)
  · exact next _ _ hf
  · exact absurd rfl h929
theorem law_17 {n : Nat} (hI : Inv N g) (hr : ∀ j, rI (N 61 0 j)) (hn : 6 * n + 6 ≤ (N 61 1 0).toNat) (hl : (N 61 1 0).toNat ≤ 3072) (next : ∀ N' g', Fin2 N N' g' → AW K YL_law hL_law (qI Pq) 2059 [some (vr 61 0), some (vr 0 0), some (vr 40 0), some (vr 60 0), some (vi (6 * (n : Int))), none, none] [] N' g') : AW K YL_law hL_law (qI Pq) 934 [some (vr 61 0), some (vr 0 0), some (vr 40 0), some (vr 60 0), some (vi (6 * (n : Int))), none, none] [] N g := by
  obtain ⟨d, wg, p, T, L, h⟩ := hI
  refine ld_a1 iL_law_934 ?_
  refine ld_a0 iL_law_935 ?_
  refine ld_i4 iL_law_936 ?_
  refine r_iconst iL_law_938 ?_
  refine r_iadd iL_law_939 ?_
  refine al_61 (n := (6 * n + 1)) (by omega) (by omega) (by omega) iL_law_940 ?_
  refine xX9_rate kML_103 iL_law_941 (by decide) (Nat.le_of_ble_eq_true rfl) rfl rfl ?_
  refine Ck.mapI ?_ (q_rate h (hr _))
  rintro z N1 g1 ⟨s1, hm⟩
  have s61 := s1.1 1 0
  refine ld_a2 iL_law_944 ?_
  refine ld_a0 iL_law_945 ?_
  refine ld_i4 iL_law_946 ?_
  refine r_iconst iL_law_948 ?_
  refine r_iadd iL_law_949 ?_
  refine al_61 (n := (6 * n + 1)) (by omega) (by omega) (by omega) iL_law_950 ?_
  rw [s1.1 0 (6 * n + 1)]
  refine xX10_rate kML_106 iL_law_951 (by decide) (Nat.le_of_ble_eq_true rfl) rfl rfl ?_
  refine Ck.mapI ?_ hm
  rintro z2 N2 g2 ⟨e2, hf⟩
  subst e2
  refine r_icmpeqS iL_law_954 ?_
  exact next _ _ hf
theorem law_18 {n : Nat} (hI : Inv N g) (hr : ∀ j, rI (N 61 0 j)) (hn : 6 * n + 6 ≤ (N 61 1 0).toNat) (hl : (N 61 1 0).toNat ≤ 3072) (next : ∀ N' g', Fin2 N N' g' → AW K YL_law hL_law (qI Pq) 2059 [some (vr 61 0), some (vr 0 0), some (vr 40 0), some (vr 60 0), some (vi (6 * (n : Int))), none, none] [] N' g') : AW K YL_law hL_law (qI Pq) 959 [some (vr 61 0), some (vr 0 0), some (vr 40 0), some (vr 60 0), some (vi (6 * (n : Int))), none, none] [] N g := by
  obtain ⟨d, wg, p, T, L, h⟩ := hI
  refine ld_a1 iL_law_959 ?_
  refine ld_a0 iL_law_960 ?_
  refine ld_i4 iL_law_961 ?_
  refine r_iconst iL_law_963 ?_
  refine r_iadd iL_law_964 ?_
  refine al_61 (n := (6 * n + 1)) (by omega) (by omega) (by omega) iL_law_965 ?_
  refine xX9_jumps kML_107 iL_law_966 (by decide) (Nat.le_of_ble_eq_true rfl) rfl rfl ?_
  refine Ck.mapI ?_ (q_jumps h (hr _))
  rintro z N1 g1 ⟨s1, hm⟩
  have s61 := s1.1 1 0
  refine ld_a2 iL_law_969 ?_
  refine ld_a0 iL_law_970 ?_
  refine ld_i4 iL_law_971 ?_
  refine r_iconst iL_law_973 ?_
  refine r_iadd iL_law_974 ?_
  refine al_61 (n := (6 * n + 1)) (by omega) (by omega) (by omega) iL_law_975 ?_
  rw [s1.1 0 (6 * n + 1)]
  refine xX10_jumps kML_110 iL_law_976 (by decide) (Nat.le_of_ble_eq_true rfl) rfl rfl ?_
  refine Ck.mapI ?_ hm
  rintro z2 N2 g2 ⟨e2, hf⟩
  subst e2
  refine r_icmpeqS iL_law_979 ?_
  exact next _ _ hf
theorem law_19 {n : Nat} (hI : Inv N g) (hr : ∀ j, rI (N 61 0 j)) (hn : 6 * n + 6 ≤ (N 61 1 0).toNat) (hl : (N 61 1 0).toNat ≤ 3072) (next : ∀ N' g', Fin2 N N' g' → AW K YL_law hL_law (qI Pq) 2059 [some (vr 61 0), some (vr 0 0), some (vr 40 0), some (vr 60 0), some (vi (6 * (n : Int))), none, none] [] N' g') : AW K YL_law hL_law (qI Pq) 984 [some (vr 61 0), some (vr 0 0), some (vr 40 0), some (vr 60 0), some (vi (6 * (n : Int))), none, none] [] N g := by
  obtain ⟨d, wg, p, T, L, h⟩ := hI
  refine ld_a1 iL_law_984 ?_
  refine ld_a0 iL_law_985 ?_
  refine ld_i4 iL_law_986 ?_
  refine r_iconst iL_law_988 ?_
  refine r_iadd iL_law_989 ?_
  refine al_61 (n := (6 * n + 1)) (by omega) (by omega) (by omega) iL_law_990 ?_
  refine ld_a0 iL_law_991 ?_
  refine ld_i4 iL_law_992 ?_
  refine r_iconst iL_law_994 ?_
  refine r_iadd iL_law_995 ?_
  refine al_61 (n := (6 * n + 2)) (by omega) (by omega) (by omega) iL_law_996 ?_
  refine ld_a0 iL_law_997 ?_
  refine ld_i4 iL_law_998 ?_
  refine r_iconst iL_law_1000 ?_
  refine r_iadd iL_law_1001 ?_
  refine al_61 (n := (6 * n + 3)) (by omega) (by omega) (by omega) iL_law_1002 ?_
  refine ld_a0 iL_law_1003 ?_
  refine ld_i4 iL_law_1004 ?_
  refine r_iconst iL_law_1006 ?_
  refine r_iadd iL_law_1007 ?_
  refine al_61 (n := (6 * n + 4)) (by omega) (by omega) (by omega) iL_law_1008 ?_
  refine xX9_bend kML_111 iL_law_1009 (by decide) (Nat.le_of_ble_eq_true rfl) rfl rfl ?_
  refine Ck.mapI ?_ (q_bend h (hr _) (hr _) (hr _) (hr _))
  rintro z N1 g1 ⟨s1, hm⟩
  have s61 := s1.1 1 0
  refine ld_a2 iL_law_1012 ?_
  refine ld_a0 iL_law_1013 ?_
  refine ld_i4 iL_law_1014 ?_
  refine r_iconst iL_law_1016 ?_
  refine r_iadd iL_law_1017 ?_
  refine al_61 (n := (6 * n + 1)) (by omega) (by omega) (by omega) iL_law_1018 ?_
  rw [s1.1 0 (6 * n + 1)]
  refine ld_a0 iL_law_1019 ?_
  refine ld_i4 iL_law_1020 ?_
  refine r_iconst iL_law_1022 ?_
  refine r_iadd iL_law_1023 ?_
  refine al_61 (n := (6 * n + 2)) (by omega) (by omega) (by omega) iL_law_1024 ?_
  rw [s1.1 0 (6 * n + 2)]
  refine ld_a0 iL_law_1025 ?_
  refine ld_i4 iL_law_1026 ?_
  refine r_iconst iL_law_1028 ?_
  refine r_iadd iL_law_1029 ?_
  refine al_61 (n := (6 * n + 3)) (by omega) (by omega) (by omega) iL_law_1030 ?_
  rw [s1.1 0 (6 * n + 3)]
  refine ld_a0 iL_law_1031 ?_
  refine ld_i4 iL_law_1032 ?_
  refine r_iconst iL_law_1034 ?_
  refine r_iadd iL_law_1035 ?_
  refine al_61 (n := (6 * n + 4)) (by omega) (by omega) (by omega) iL_law_1036 ?_
  rw [s1.1 0 (6 * n + 4)]
  refine xX10_bend kML_115 iL_law_1037 (by decide) (Nat.le_of_ble_eq_true rfl) rfl rfl ?_
  refine Ck.mapI ?_ hm
  rintro z2 N2 g2 ⟨e2, hf⟩
  subst e2
  refine r_icmpeqS iL_law_1040 ?_
  exact next _ _ hf
theorem law_20 {n : Nat} (hI : Inv N g) (hr : ∀ j, rI (N 61 0 j)) (hn : 6 * n + 6 ≤ (N 61 1 0).toNat) (hl : (N 61 1 0).toNat ≤ 3072) (next : ∀ N' g', Fin2 N N' g' → AW K YL_law hL_law (qI Pq) 2059 [some (vr 61 0), some (vr 0 0), some (vr 40 0), some (vr 60 0), some (vi (6 * (n : Int))), none, none] [] N' g') : AW K YL_law hL_law (qI Pq) 1045 [some (vr 61 0), some (vr 0 0), some (vr 40 0), some (vr 60 0), some (vi (6 * (n : Int))), none, none] [] N g := by
  obtain ⟨d, wg, p, T, L, h⟩ := hI
  refine ld_a1 iL_law_1045 ?_
  refine ld_a0 iL_law_1046 ?_
  refine ld_i4 iL_law_1047 ?_
  refine r_iconst iL_law_1049 ?_
  refine r_iadd iL_law_1050 ?_
  refine al_61 (n := (6 * n + 1)) (by omega) (by omega) (by omega) iL_law_1051 ?_
  refine xX9_benefit kML_116 iL_law_1052 (by decide) (Nat.le_of_ble_eq_true rfl) rfl rfl ?_
  refine Ck.mapI ?_ (q_benefit h (hr _))
  rintro z N1 g1 ⟨s1, hm⟩
  have s61 := s1.1 1 0
  refine ld_a2 iL_law_1055 ?_
  refine ld_a0 iL_law_1056 ?_
  refine ld_i4 iL_law_1057 ?_
  refine r_iconst iL_law_1059 ?_
  refine r_iadd iL_law_1060 ?_
  refine al_61 (n := (6 * n + 1)) (by omega) (by omega) (by omega) iL_law_1061 ?_
  rw [s1.1 0 (6 * n + 1)]
  refine xX10_benefit kML_119 iL_law_1062 (by decide) (Nat.le_of_ble_eq_true rfl) rfl rfl ?_
  refine Ck.mapI ?_ hm
  rintro z2 N2 g2 ⟨e2, hf⟩
  subst e2
  refine r_icmpeqS iL_law_1065 ?_
  exact next _ _ hf
theorem law_21 {n : Nat} (hI : Inv N g) (hr : ∀ j, rI (N 61 0 j)) (hn : 6 * n + 6 ≤ (N 61 1 0).toNat) (hl : (N 61 1 0).toNat ≤ 3072) (next : ∀ N' g', Fin2 N N' g' → AW K YL_law hL_law (qI Pq) 2059 [some (vr 61 0), some (vr 0 0), some (vr 40 0), some (vr 60 0), some (vi (6 * (n : Int))), none, none] [] N' g') : AW K YL_law hL_law (qI Pq) 1070 [some (vr 61 0), some (vr 0 0), some (vr 40 0), some (vr 60 0), some (vi (6 * (n : Int))), none, none] [] N g := by
  obtain ⟨d, wg, p, T, L, h⟩ := hI
  refine ld_a1 iL_law_1070 ?_
  refine ld_a0 iL_law_1071 ?_
  refine ld_i4 iL_law_1072 ?_
  refine r_iconst iL_law_1074 ?_
  refine r_iadd iL_law_1075 ?_
  refine al_61 (n := (6 * n + 1)) (by omega) (by omega) (by omega) iL_law_1076 ?_
  refine xX9_month kML_120 iL_law_1077 (by decide) (Nat.le_of_ble_eq_true rfl) rfl rfl ?_
  refine Ck.mapL ?_ (q_month h (hr _))
  rintro z N1 g1 ⟨s1, hm⟩
  have s61 := s1.1 1 0
  refine ld_a2 iL_law_1080 ?_
  refine ld_a0 iL_law_1081 ?_
  refine ld_i4 iL_law_1082 ?_
  refine r_iconst iL_law_1084 ?_
  refine r_iadd iL_law_1085 ?_
  refine al_61 (n := (6 * n + 1)) (by omega) (by omega) (by omega) iL_law_1086 ?_
  rw [s1.1 0 (6 * n + 1)]
  refine xX10_month kML_123 iL_law_1087 (by decide) (Nat.le_of_ble_eq_true rfl) rfl rfl ?_
  refine Ck.mapL ?_ hm
  rintro z2 N2 g2 ⟨e2, hf⟩
  subst e2
  refine r_lcmpS iL_law_1090 ?_
  refine r_ifeq iL_law_1091 (by omega) (fun h1091 => ?_) (fun h1091 => ?_)
  · exact next _ _ hf
  · exact absurd rfl h1091
theorem law_22 {n : Nat} (hI : Inv N g) (hr : ∀ j, rI (N 61 0 j)) (hn : 6 * n + 6 ≤ (N 61 1 0).toNat) (hl : (N 61 1 0).toNat ≤ 3072) (next : ∀ N' g', Fin2 N N' g' → AW K YL_law hL_law (qI Pq) 2059 [some (vr 61 0), some (vr 0 0), some (vr 40 0), some (vr 60 0), some (vi (6 * (n : Int))), none, none] [] N' g') : AW K YL_law hL_law (qI Pq) 1096 [some (vr 61 0), some (vr 0 0), some (vr 40 0), some (vr 60 0), some (vi (6 * (n : Int))), none, none] [] N g := by
  obtain ⟨d, wg, p, T, L, h⟩ := hI
  refine ld_a1 iL_law_1096 ?_
  refine xX9_takeBack kML_124 iL_law_1097 (by decide) (Nat.le_of_ble_eq_true rfl) rfl rfl ?_
  refine Ck.mapI ?_ (q_takeBack h )
  rintro z N1 g1 ⟨s1, hm⟩
  have s61 := s1.1 1 0
  refine ld_a2 iL_law_1100 ?_
  refine xX10_takeBack kML_127 iL_law_1101 (by decide) (Nat.le_of_ble_eq_true rfl) rfl rfl ?_
  refine Ck.mapI ?_ hm
  rintro z2 N2 g2 ⟨e2, hf⟩
  subst e2
  refine r_icmpeqS iL_law_1104 ?_
  exact next _ _ hf
theorem law_23 {n : Nat} (hI : Inv N g) (hr : ∀ j, rI (N 61 0 j)) (hn : 6 * n + 6 ≤ (N 61 1 0).toNat) (hl : (N 61 1 0).toNat ≤ 3072) (next : ∀ N' g', Fin2 N N' g' → AW K YL_law hL_law (qI Pq) 2059 [some (vr 61 0), some (vr 0 0), some (vr 40 0), some (vr 60 0), some (vi (6 * (n : Int))), none, none] [] N' g') : AW K YL_law hL_law (qI Pq) 1109 [some (vr 61 0), some (vr 0 0), some (vr 40 0), some (vr 60 0), some (vi (6 * (n : Int))), none, none] [] N g := by
  obtain ⟨d, wg, p, T, L, h⟩ := hI
  refine ld_a1 iL_law_1109 ?_
  refine ld_a0 iL_law_1110 ?_
  refine ld_i4 iL_law_1111 ?_
  refine r_iconst iL_law_1113 ?_
  refine r_iadd iL_law_1114 ?_
  refine al_61 (n := (6 * n + 1)) (by omega) (by omega) (by omega) iL_law_1115 ?_
  refine ld_a0 iL_law_1116 ?_
  refine ld_i4 iL_law_1117 ?_
  refine r_iconst iL_law_1119 ?_
  refine r_iadd iL_law_1120 ?_
  refine al_61 (n := (6 * n + 2)) (by omega) (by omega) (by omega) iL_law_1121 ?_
  refine xX9_year kML_128 iL_law_1122 (by decide) (Nat.le_of_ble_eq_true rfl) rfl rfl ?_
  refine Ck.mapL ?_ (q_year h (hr _) (hr _))
  rintro z N1 g1 ⟨s1, hm⟩
  have s61 := s1.1 1 0
  refine ld_a2 iL_law_1125 ?_
  refine ld_a0 iL_law_1126 ?_
  refine ld_i4 iL_law_1127 ?_
  refine r_iconst iL_law_1129 ?_
  refine r_iadd iL_law_1130 ?_
  refine al_61 (n := (6 * n + 1)) (by omega) (by omega) (by omega) iL_law_1131 ?_
  rw [s1.1 0 (6 * n + 1)]
  refine ld_a0 iL_law_1132 ?_
  refine ld_i4 iL_law_1133 ?_
  refine r_iconst iL_law_1135 ?_
  refine r_iadd iL_law_1136 ?_
  refine al_61 (n := (6 * n + 2)) (by omega) (by omega) (by omega) iL_law_1137 ?_
  rw [s1.1 0 (6 * n + 2)]
  refine xX10_year kML_131 iL_law_1138 (by decide) (Nat.le_of_ble_eq_true rfl) rfl rfl ?_
  refine Ck.mapL ?_ hm
  rintro z2 N2 g2 ⟨e2, hf⟩
  subst e2
  refine r_lcmpS iL_law_1141 ?_
  refine r_ifeq iL_law_1142 (by omega) (fun h1142 => ?_) (fun h1142 => ?_)
  · exact next _ _ hf
  · exact absurd rfl h1142
theorem law_24 {n : Nat} (hI : Inv N g) (hr : ∀ j, rI (N 61 0 j)) (hn : 6 * n + 6 ≤ (N 61 1 0).toNat) (hl : (N 61 1 0).toNat ≤ 3072) (next : ∀ N' g', Fin2 N N' g' → AW K YL_law hL_law (qI Pq) 2059 [some (vr 61 0), some (vr 0 0), some (vr 40 0), some (vr 60 0), some (vi (6 * (n : Int))), none, none] [] N' g') : AW K YL_law hL_law (qI Pq) 1147 [some (vr 61 0), some (vr 0 0), some (vr 40 0), some (vr 60 0), some (vi (6 * (n : Int))), none, none] [] N g := by
  obtain ⟨d, wg, p, T, L, h⟩ := hI
  refine ld_a1 iL_law_1147 ?_
  refine ld_a0 iL_law_1148 ?_
  refine ld_i4 iL_law_1149 ?_
  refine r_iconst iL_law_1151 ?_
  refine r_iadd iL_law_1152 ?_
  refine al_61 (n := (6 * n + 1)) (by omega) (by omega) (by omega) iL_law_1153 ?_
  refine xX9_sofar kML_132 iL_law_1154 (by decide) (Nat.le_of_ble_eq_true rfl) rfl rfl ?_
  refine Ck.mapL ?_ (q_sofar h (hr _))
  rintro z N1 g1 ⟨s1, hm⟩
  have s61 := s1.1 1 0
  refine ld_a2 iL_law_1157 ?_
  refine ld_a0 iL_law_1158 ?_
  refine ld_i4 iL_law_1159 ?_
  refine r_iconst iL_law_1161 ?_
  refine r_iadd iL_law_1162 ?_
  refine al_61 (n := (6 * n + 1)) (by omega) (by omega) (by omega) iL_law_1163 ?_
  rw [s1.1 0 (6 * n + 1)]
  refine xX10_sofar kML_135 iL_law_1164 (by decide) (Nat.le_of_ble_eq_true rfl) rfl rfl ?_
  refine Ck.mapL ?_ hm
  rintro z2 N2 g2 ⟨e2, hf⟩
  subst e2
  refine r_lcmpS iL_law_1167 ?_
  refine r_ifeq iL_law_1168 (by omega) (fun h1168 => ?_) (fun h1168 => ?_)
  · exact next _ _ hf
  · exact absurd rfl h1168
end Law20b
