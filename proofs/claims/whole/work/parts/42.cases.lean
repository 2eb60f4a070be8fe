theorem dL_law_625 : decode cL_law 625 = .ok (.aload_n 1, 1) := by decide +kernel
theorem dL_law_626 : decode cL_law 626 = .ok (.aload_n 0, 1) := by decide +kernel
theorem dL_law_627 : decode cL_law 627 = .ok (.iload 4, 2) := by decide +kernel
theorem dL_law_629 : decode cL_law 629 = .ok (.iconst 1, 1) := by decide +kernel
theorem dL_law_630 : decode cL_law 630 = .ok (.iadd, 1) := by decide +kernel
theorem dL_law_631 : decode cL_law 631 = .ok (.iaload, 1) := by decide +kernel
theorem dL_law_632 : decode cL_law 632 = .ok (.aload_n 0, 1) := by decide +kernel
theorem dL_law_633 : decode cL_law 633 = .ok (.iload 4, 2) := by decide +kernel
theorem dL_law_635 : decode cL_law 635 = .ok (.iconst 2, 1) := by decide +kernel
theorem dL_law_636 : decode cL_law 636 = .ok (.iadd, 1) := by decide +kernel
theorem dL_law_637 : decode cL_law 637 = .ok (.iaload, 1) := by decide +kernel
theorem dL_law_638 : decode cL_law 638 = .ok (.invokevirtual 73, 3) := by decide +kernel
theorem dL_law_641 : decode cL_law 641 = .ok (.aload_n 2, 1) := by decide +kernel
theorem dL_law_642 : decode cL_law 642 = .ok (.aload_n 0, 1) := by decide +kernel
theorem dL_law_643 : decode cL_law 643 = .ok (.iload 4, 2) := by decide +kernel
theorem dL_law_645 : decode cL_law 645 = .ok (.iconst 1, 1) := by decide +kernel
theorem dL_law_646 : decode cL_law 646 = .ok (.iadd, 1) := by decide +kernel
theorem dL_law_647 : decode cL_law 647 = .ok (.iaload, 1) := by decide +kernel
theorem dL_law_648 : decode cL_law 648 = .ok (.aload_n 0, 1) := by decide +kernel
theorem dL_law_649 : decode cL_law 649 = .ok (.iload 4, 2) := by decide +kernel
theorem dL_law_651 : decode cL_law 651 = .ok (.iconst 2, 1) := by decide +kernel
theorem dL_law_652 : decode cL_law 652 = .ok (.iadd, 1) := by decide +kernel
theorem dL_law_653 : decode cL_law 653 = .ok (.iaload, 1) := by decide +kernel
theorem dL_law_654 : decode cL_law 654 = .ok (.invokevirtual 76, 3) := by decide +kernel
theorem dL_law_657 : decode cL_law 657 = .ok (.if_icmp .eq 958, 3) := by decide +kernel
theorem dL_law_662 : decode cL_law 662 = .ok (.aload_n 1, 1) := by decide +kernel
theorem dL_law_663 : decode cL_law 663 = .ok (.aload_n 0, 1) := by decide +kernel
theorem dL_law_664 : decode cL_law 664 = .ok (.iload 4, 2) := by decide +kernel
theorem dL_law_666 : decode cL_law 666 = .ok (.iconst 1, 1) := by decide +kernel
theorem dL_law_667 : decode cL_law 667 = .ok (.iadd, 1) := by decide +kernel
theorem dL_law_668 : decode cL_law 668 = .ok (.iaload, 1) := by decide +kernel
theorem dL_law_669 : decode cL_law 669 = .ok (.invokevirtual 77, 3) := by decide +kernel
theorem dL_law_672 : decode cL_law 672 = .ok (.aload_n 2, 1) := by decide +kernel
theorem dL_law_673 : decode cL_law 673 = .ok (.aload_n 0, 1) := by decide +kernel
theorem dL_law_674 : decode cL_law 674 = .ok (.iload 4, 2) := by decide +kernel
theorem dL_law_676 : decode cL_law 676 = .ok (.iconst 1, 1) := by decide +kernel
theorem dL_law_677 : decode cL_law 677 = .ok (.iadd, 1) := by decide +kernel
theorem dL_law_678 : decode cL_law 678 = .ok (.iaload, 1) := by decide +kernel
theorem dL_law_679 : decode cL_law 679 = .ok (.invokevirtual 80, 3) := by decide +kernel
theorem dL_law_682 : decode cL_law 682 = .ok (.if_icmp .eq 933, 3) := by decide +kernel
theorem dL_law_687 : decode cL_law 687 = .ok (.aload_n 1, 1) := by decide +kernel
theorem dL_law_688 : decode cL_law 688 = .ok (.invokevirtual 81, 3) := by decide +kernel
theorem dL_law_691 : decode cL_law 691 = .ok (.aload_n 2, 1) := by decide +kernel
theorem dL_law_692 : decode cL_law 692 = .ok (.invokevirtual 84, 3) := by decide +kernel
theorem dL_law_695 : decode cL_law 695 = .ok (.if_icmp .eq 920, 3) := by decide +kernel
theorem dL_law_700 : decode cL_law 700 = .ok (.aload_n 1, 1) := by decide +kernel
theorem dL_law_701 : decode cL_law 701 = .ok (.aload_n 0, 1) := by decide +kernel
theorem dL_law_702 : decode cL_law 702 = .ok (.iload 4, 2) := by decide +kernel
theorem dL_law_704 : decode cL_law 704 = .ok (.iconst 1, 1) := by decide +kernel
theorem dL_law_705 : decode cL_law 705 = .ok (.iadd, 1) := by decide +kernel
theorem dL_law_706 : decode cL_law 706 = .ok (.iaload, 1) := by decide +kernel
theorem dL_law_707 : decode cL_law 707 = .ok (.invokevirtual 85, 3) := by decide +kernel
theorem dL_law_710 : decode cL_law 710 = .ok (.aload_n 2, 1) := by decide +kernel
theorem dL_law_711 : decode cL_law 711 = .ok (.aload_n 0, 1) := by decide +kernel
theorem dL_law_712 : decode cL_law 712 = .ok (.iload 4, 2) := by decide +kernel
theorem dL_law_714 : decode cL_law 714 = .ok (.iconst 1, 1) := by decide +kernel
theorem dL_law_715 : decode cL_law 715 = .ok (.iadd, 1) := by decide +kernel
theorem dL_law_716 : decode cL_law 716 = .ok (.iaload, 1) := by decide +kernel
theorem dL_law_717 : decode cL_law 717 = .ok (.invokevirtual 88, 3) := by decide +kernel
theorem dL_law_720 : decode cL_law 720 = .ok (.if_icmp .eq 895, 3) := by decide +kernel
theorem dL_law_725 : decode cL_law 725 = .ok (.aload_n 1, 1) := by decide +kernel
theorem dL_law_726 : decode cL_law 726 = .ok (.aload_n 0, 1) := by decide +kernel
theorem dL_law_727 : decode cL_law 727 = .ok (.iload 4, 2) := by decide +kernel
theorem dL_law_729 : decode cL_law 729 = .ok (.iconst 1, 1) := by decide +kernel
theorem dL_law_730 : decode cL_law 730 = .ok (.iadd, 1) := by decide +kernel
theorem dL_law_731 : decode cL_law 731 = .ok (.iaload, 1) := by decide +kernel
theorem dL_law_732 : decode cL_law 732 = .ok (.aload_n 0, 1) := by decide +kernel
theorem dL_law_733 : decode cL_law 733 = .ok (.iload 4, 2) := by decide +kernel
theorem dL_law_735 : decode cL_law 735 = .ok (.iconst 2, 1) := by decide +kernel
theorem dL_law_736 : decode cL_law 736 = .ok (.iadd, 1) := by decide +kernel
theorem dL_law_737 : decode cL_law 737 = .ok (.iaload, 1) := by decide +kernel
theorem dL_law_738 : decode cL_law 738 = .ok (.invokevirtual 89, 3) := by decide +kernel
theorem dL_law_741 : decode cL_law 741 = .ok (.aload_n 2, 1) := by decide +kernel
theorem dL_law_742 : decode cL_law 742 = .ok (.aload_n 0, 1) := by decide +kernel
theorem dL_law_743 : decode cL_law 743 = .ok (.iload 4, 2) := by decide +kernel
theorem dL_law_745 : decode cL_law 745 = .ok (.iconst 1, 1) := by decide +kernel
theorem dL_law_746 : decode cL_law 746 = .ok (.iadd, 1) := by decide +kernel
theorem dL_law_747 : decode cL_law 747 = .ok (.iaload, 1) := by decide +kernel
theorem dL_law_748 : decode cL_law 748 = .ok (.aload_n 0, 1) := by decide +kernel
theorem dL_law_749 : decode cL_law 749 = .ok (.iload 4, 2) := by decide +kernel
theorem dL_law_751 : decode cL_law 751 = .ok (.iconst 2, 1) := by decide +kernel
theorem dL_law_752 : decode cL_law 752 = .ok (.iadd, 1) := by decide +kernel
theorem dL_law_753 : decode cL_law 753 = .ok (.iaload, 1) := by decide +kernel
theorem dL_law_754 : decode cL_law 754 = .ok (.invokevirtual 92, 3) := by decide +kernel
theorem dL_law_757 : decode cL_law 757 = .ok (.if_icmp .eq 858, 3) := by decide +kernel
theorem dL_law_762 : decode cL_law 762 = .ok (.aload_n 1, 1) := by decide +kernel
theorem dL_law_763 : decode cL_law 763 = .ok (.aload_n 0, 1) := by decide +kernel
theorem dL_law_764 : decode cL_law 764 = .ok (.iload 4, 2) := by decide +kernel
theorem dL_law_766 : decode cL_law 766 = .ok (.iconst 1, 1) := by decide +kernel
theorem dL_law_767 : decode cL_law 767 = .ok (.iadd, 1) := by decide +kernel
theorem dL_law_768 : decode cL_law 768 = .ok (.iaload, 1) := by decide +kernel
theorem dL_law_769 : decode cL_law 769 = .ok (.aload_n 0, 1) := by decide +kernel
theorem dL_law_770 : decode cL_law 770 = .ok (.iload 4, 2) := by decide +kernel
theorem dL_law_772 : decode cL_law 772 = .ok (.iconst 2, 1) := by decide +kernel
theorem dL_law_773 : decode cL_law 773 = .ok (.iadd, 1) := by decide +kernel
theorem dL_law_774 : decode cL_law 774 = .ok (.iaload, 1) := by decide +kernel
theorem dL_law_775 : decode cL_law 775 = .ok (.invokevirtual 93, 3) := by decide +kernel
theorem dL_law_778 : decode cL_law 778 = .ok (.aload_n 2, 1) := by decide +kernel
theorem dL_law_779 : decode cL_law 779 = .ok (.aload_n 0, 1) := by decide +kernel
theorem dL_law_780 : decode cL_law 780 = .ok (.iload 4, 2) := by decide +kernel
theorem dL_law_782 : decode cL_law 782 = .ok (.iconst 1, 1) := by decide +kernel
theorem dL_law_783 : decode cL_law 783 = .ok (.iadd, 1) := by decide +kernel
theorem dL_law_784 : decode cL_law 784 = .ok (.iaload, 1) := by decide +kernel
theorem dL_law_785 : decode cL_law 785 = .ok (.aload_n 0, 1) := by decide +kernel
theorem dL_law_786 : decode cL_law 786 = .ok (.iload 4, 2) := by decide +kernel
theorem dL_law_788 : decode cL_law 788 = .ok (.iconst 2, 1) := by decide +kernel
theorem dL_law_789 : decode cL_law 789 = .ok (.iadd, 1) := by decide +kernel
theorem dL_law_790 : decode cL_law 790 = .ok (.iaload, 1) := by decide +kernel
theorem dL_law_791 : decode cL_law 791 = .ok (.invokevirtual 96, 3) := by decide +kernel
theorem dL_law_794 : decode cL_law 794 = .ok (.if_icmp .eq 821, 3) := by decide +kernel
theorem dL_law_799 : decode cL_law 799 = .ok (.aload_n 1, 1) := by decide +kernel
theorem dL_law_800 : decode cL_law 800 = .ok (.aload_n 0, 1) := by decide +kernel
theorem dL_law_801 : decode cL_law 801 = .ok (.iload 4, 2) := by decide +kernel
theorem dL_law_803 : decode cL_law 803 = .ok (.iconst 1, 1) := by decide +kernel
theorem dL_law_804 : decode cL_law 804 = .ok (.iadd, 1) := by decide +kernel
theorem dL_law_805 : decode cL_law 805 = .ok (.iaload, 1) := by decide +kernel
theorem dL_law_806 : decode cL_law 806 = .ok (.invokevirtual 97, 3) := by decide +kernel
theorem dL_law_809 : decode cL_law 809 = .ok (.aload_n 2, 1) := by decide +kernel
theorem dL_law_810 : decode cL_law 810 = .ok (.aload_n 0, 1) := by decide +kernel
theorem dL_law_811 : decode cL_law 811 = .ok (.iload 4, 2) := by decide +kernel
theorem dL_law_813 : decode cL_law 813 = .ok (.iconst 1, 1) := by decide +kernel
theorem dL_law_814 : decode cL_law 814 = .ok (.iadd, 1) := by decide +kernel
theorem dL_law_815 : decode cL_law 815 = .ok (.iaload, 1) := by decide +kernel
theorem dL_law_816 : decode cL_law 816 = .ok (.invokevirtual 100, 3) := by decide +kernel
theorem dL_law_819 : decode cL_law 819 = .ok (.if_icmp .eq 796, 3) := by decide +kernel
theorem dL_law_892 : decode cL_law 892 = .ok (.aload_n 1, 1) := by decide +kernel
theorem dL_law_893 : decode cL_law 893 = .ok (.aload_n 0, 1) := by decide +kernel
theorem dL_law_894 : decode cL_law 894 = .ok (.iload 4, 2) := by decide +kernel
theorem dL_law_896 : decode cL_law 896 = .ok (.iconst 1, 1) := by decide +kernel
theorem dL_law_897 : decode cL_law 897 = .ok (.iadd, 1) := by decide +kernel
theorem dL_law_898 : decode cL_law 898 = .ok (.iaload, 1) := by decide +kernel
theorem dL_law_899 : decode cL_law 899 = .ok (.aload_n 0, 1) := by decide +kernel
theorem dL_law_900 : decode cL_law 900 = .ok (.iload 4, 2) := by decide +kernel
theorem dL_law_902 : decode cL_law 902 = .ok (.iconst 2, 1) := by decide +kernel
theorem dL_law_903 : decode cL_law 903 = .ok (.iadd, 1) := by decide +kernel
theorem dL_law_904 : decode cL_law 904 = .ok (.iaload, 1) := by decide +kernel
theorem dL_law_905 : decode cL_law 905 = .ok (.invokevirtual 104, 3) := by decide +kernel
theorem dL_law_908 : decode cL_law 908 = .ok (.aload_n 2, 1) := by decide +kernel
theorem dL_law_909 : decode cL_law 909 = .ok (.aload_n 0, 1) := by decide +kernel
theorem dL_law_910 : decode cL_law 910 = .ok (.iload 4, 2) := by decide +kernel
theorem dL_law_912 : decode cL_law 912 = .ok (.iconst 1, 1) := by decide +kernel
theorem dL_law_913 : decode cL_law 913 = .ok (.iadd, 1) := by decide +kernel
theorem dL_law_914 : decode cL_law 914 = .ok (.iaload, 1) := by decide +kernel
theorem dL_law_915 : decode cL_law 915 = .ok (.aload_n 0, 1) := by decide +kernel
theorem dL_law_916 : decode cL_law 916 = .ok (.iload 4, 2) := by decide +kernel
theorem dL_law_918 : decode cL_law 918 = .ok (.iconst 2, 1) := by decide +kernel
theorem dL_law_919 : decode cL_law 919 = .ok (.iadd, 1) := by decide +kernel
theorem dL_law_920 : decode cL_law 920 = .ok (.iaload, 1) := by decide +kernel
theorem dL_law_921 : decode cL_law 921 = .ok (.invokevirtual 107, 3) := by decide +kernel
theorem dL_law_924 : decode cL_law 924 = .ok (.if_icmp .eq 691, 3) := by decide +kernel
theorem dL_law_929 : decode cL_law 929 = .ok (.aload_n 1, 1) := by decide +kernel
theorem dL_law_930 : decode cL_law 930 = .ok (.invokevirtual 108, 3) := by decide +kernel
theorem dL_law_933 : decode cL_law 933 = .ok (.aload_n 2, 1) := by decide +kernel
theorem dL_law_934 : decode cL_law 934 = .ok (.invokevirtual 111, 3) := by decide +kernel
theorem dL_law_937 : decode cL_law 937 = .ok (.if_icmp .eq 678, 3) := by decide +kernel
theorem law_skip {z : Mx} {ad : Nat → Nat} {o : Option Value × St} {b u L i : Nat} {xs : Nat → Int32} {Inv : St → Prop} (X : CxOk z ad RL cL_law 7 (some .boolean) 1200) (hX : SX z b L xs) (hi : i + 6 ≤ L) (hp : pr_skip Inv) (S : St) (hInv : Inv S) (hgo : ∀ S2, Inv S2 → GW z ad o S2 1615 [(0, .ref b), (1, .ref (ad 0)), (2, .ref (ad 140)), (3, .ref u), (4, .int (nI i))] []) : GW z ad o S 625 [(0, .ref b), (1, .ref (ad 0)), (2, .ref (ad 140)), (3, .ref u), (4, .int (nI i))] [] := by
  obtain ⟨r, S1, S2, e1, e2, hI2⟩ := hp S hInv (xs (i + 1)) (xs (i + 2))
  refine g_aload_n X dL_law_625 1 rfl rfl ?_
  refine g_aload_n X dL_law_626 0 rfl rfl ?_
  refine g_iload X dL_law_627 4 rfl ?_
  refine g_iconst (v := 1) X dL_law_629 (by decide) ?_
  refine g_iadd X dL_law_630 ?_
  refine g_sld (j := i + 1) X hX dL_law_631 (nI_add i 1) (by omega) ?_
  refine g_aload_n X dL_law_632 0 rfl rfl ?_
  refine g_iload X dL_law_633 4 rfl ?_
  refine g_iconst (v := 2) X dL_law_635 (by decide) ?_
  refine g_iadd X dL_law_636 ?_
  refine g_sld (j := i + 2) X hX dL_law_637 (nI_add i 2) (by omega) ?_
  refine g_callVi (As := [.int (xs (i + 1)), .int (xs (i + 2))]) (v := r) (S' := S1) X dL_law_638 mlL_73 (fun l D cyy => tX10_skip (cx_inj X) l D cyy 0 (xs (i + 1)) (xs (i + 2)) (by decide +kernel) S (r, S1) e1) (by decide +kernel) (by decide) rfl rfl (Nat.le_of_ble_eq_true rfl) ?_
  refine g_aload_n X dL_law_641 2 rfl rfl ?_
  refine g_aload_n X dL_law_642 0 rfl rfl ?_
  refine g_iload X dL_law_643 4 rfl ?_
  refine g_iconst (v := 1) X dL_law_645 (by decide) ?_
  refine g_iadd X dL_law_646 ?_
  refine g_sld (j := i + 1) X hX dL_law_647 (nI_add i 1) (by omega) ?_
  refine g_aload_n X dL_law_648 0 rfl rfl ?_
  refine g_iload X dL_law_649 4 rfl ?_
  refine g_iconst (v := 2) X dL_law_651 (by decide) ?_
  refine g_iadd X dL_law_652 ?_
  refine g_sld (j := i + 2) X hX dL_law_653 (nI_add i 2) (by omega) ?_
  refine g_callVi (As := [.int (xs (i + 1)), .int (xs (i + 2))]) (v := r) (S' := S2) X dL_law_654 mlL_76 (fun l D cyy => tX11_skip (cx_inj X) l D cyy 140 (xs (i + 1)) (xs (i + 2)) (by decide +kernel) S1 (r, S2) e2) (by decide +kernel) (by decide) rfl rfl (Nat.le_of_ble_eq_true rfl) ?_
  exact g_icmp_eq (tgt := 1615) X dL_law_657 (by decide) (fun _ => hgo S2 hI2) (fun c0 => absurd rfl c0)
theorem law_days {z : Mx} {ad : Nat → Nat} {o : Option Value × St} {b u L i : Nat} {xs : Nat → Int32} {Inv : St → Prop} (X : CxOk z ad RL cL_law 7 (some .boolean) 1200) (hX : SX z b L xs) (hi : i + 6 ≤ L) (hp : pr_days Inv) (S : St) (hInv : Inv S) (hgo : ∀ S2, Inv S2 → GW z ad o S2 1615 [(0, .ref b), (1, .ref (ad 0)), (2, .ref (ad 140)), (3, .ref u), (4, .int (nI i))] []) : GW z ad o S 662 [(0, .ref b), (1, .ref (ad 0)), (2, .ref (ad 140)), (3, .ref u), (4, .int (nI i))] [] := by
  obtain ⟨r, S1, S2, e1, e2, hI2⟩ := hp S hInv (xs (i + 1))
  refine g_aload_n X dL_law_662 1 rfl rfl ?_
  refine g_aload_n X dL_law_663 0 rfl rfl ?_
  refine g_iload X dL_law_664 4 rfl ?_
  refine g_iconst (v := 1) X dL_law_666 (by decide) ?_
  refine g_iadd X dL_law_667 ?_
  refine g_sld (j := i + 1) X hX dL_law_668 (nI_add i 1) (by omega) ?_
  refine g_callVi (As := [.int (xs (i + 1))]) (v := r) (S' := S1) X dL_law_669 mlL_77 (fun l D cyy => tX10_days (cx_inj X) l D cyy 0 (xs (i + 1)) (by decide +kernel) S (r, S1) e1) (by decide +kernel) (by decide) rfl rfl (Nat.le_of_ble_eq_true rfl) ?_
  refine g_aload_n X dL_law_672 2 rfl rfl ?_
  refine g_aload_n X dL_law_673 0 rfl rfl ?_
  refine g_iload X dL_law_674 4 rfl ?_
  refine g_iconst (v := 1) X dL_law_676 (by decide) ?_
  refine g_iadd X dL_law_677 ?_
  refine g_sld (j := i + 1) X hX dL_law_678 (nI_add i 1) (by omega) ?_
  refine g_callVi (As := [.int (xs (i + 1))]) (v := r) (S' := S2) X dL_law_679 mlL_80 (fun l D cyy => tX11_days (cx_inj X) l D cyy 140 (xs (i + 1)) (by decide +kernel) S1 (r, S2) e2) (by decide +kernel) (by decide) rfl rfl (Nat.le_of_ble_eq_true rfl) ?_
  exact g_icmp_eq (tgt := 1615) X dL_law_682 (by decide) (fun _ => hgo S2 hI2) (fun c0 => absurd rfl c0)
theorem law_undo {z : Mx} {ad : Nat → Nat} {o : Option Value × St} {b u L i : Nat} {xs : Nat → Int32} {Inv : St → Prop} (X : CxOk z ad RL cL_law 7 (some .boolean) 1200) (hX : SX z b L xs) (hi : i + 6 ≤ L) (hp : pr_undo Inv) (S : St) (hInv : Inv S) (hgo : ∀ S2, Inv S2 → GW z ad o S2 1615 [(0, .ref b), (1, .ref (ad 0)), (2, .ref (ad 140)), (3, .ref u), (4, .int (nI i))] []) : GW z ad o S 687 [(0, .ref b), (1, .ref (ad 0)), (2, .ref (ad 140)), (3, .ref u), (4, .int (nI i))] [] := by
  obtain ⟨r, S1, S2, e1, e2, hI2⟩ := hp S hInv 
  refine g_aload_n X dL_law_687 1 rfl rfl ?_
  refine g_callVi (As := []) (v := r) (S' := S1) X dL_law_688 mlL_81 (fun l D cyy => tX10_undo (cx_inj X) l D cyy 0 (by decide +kernel) S (r, S1) e1) (by decide +kernel) (by decide) rfl rfl (Nat.le_of_ble_eq_true rfl) ?_
  refine g_aload_n X dL_law_691 2 rfl rfl ?_
  refine g_callVi (As := []) (v := r) (S' := S2) X dL_law_692 mlL_84 (fun l D cyy => tX11_undo (cx_inj X) l D cyy 140 (by decide +kernel) S1 (r, S2) e2) (by decide +kernel) (by decide) rfl rfl (Nat.le_of_ble_eq_true rfl) ?_
  exact g_icmp_eq (tgt := 1615) X dL_law_695 (by decide) (fun _ => hgo S2 hI2) (fun c0 => absurd rfl c0)
theorem law_next {z : Mx} {ad : Nat → Nat} {o : Option Value × St} {b u L i : Nat} {xs : Nat → Int32} {Inv : St → Prop} (X : CxOk z ad RL cL_law 7 (some .boolean) 1200) (hX : SX z b L xs) (hi : i + 6 ≤ L) (hp : pr_next Inv) (S : St) (hInv : Inv S) (hgo : ∀ S2, Inv S2 → GW z ad o S2 1615 [(0, .ref b), (1, .ref (ad 0)), (2, .ref (ad 140)), (3, .ref u), (4, .int (nI i))] []) : GW z ad o S 700 [(0, .ref b), (1, .ref (ad 0)), (2, .ref (ad 140)), (3, .ref u), (4, .int (nI i))] [] := by
  obtain ⟨r, S2, e1, e2, hI2⟩ := hp S hInv (xs (i + 1))
  refine g_aload_n X dL_law_700 1 rfl rfl ?_
  refine g_aload_n X dL_law_701 0 rfl rfl ?_
  refine g_iload X dL_law_702 4 rfl ?_
  refine g_iconst (v := 1) X dL_law_704 (by decide) ?_
  refine g_iadd X dL_law_705 ?_
  refine g_sld (j := i + 1) X hX dL_law_706 (nI_add i 1) (by omega) ?_
  refine g_callVi (As := [.int (xs (i + 1))]) (v := r) (S' := S) X dL_law_707 mlL_85 (fun l D cyy => tX10_next (cx_inj X) l D cyy 0 (xs (i + 1)) (by decide +kernel) S r e1) (by decide +kernel) (by decide) rfl rfl (Nat.le_of_ble_eq_true rfl) ?_
  refine g_aload_n X dL_law_710 2 rfl rfl ?_
  refine g_aload_n X dL_law_711 0 rfl rfl ?_
  refine g_iload X dL_law_712 4 rfl ?_
  refine g_iconst (v := 1) X dL_law_714 (by decide) ?_
  refine g_iadd X dL_law_715 ?_
  refine g_sld (j := i + 1) X hX dL_law_716 (nI_add i 1) (by omega) ?_
  refine g_callVi (As := [.int (xs (i + 1))]) (v := r) (S' := S2) X dL_law_717 mlL_88 (fun l D cyy => tX11_next (cx_inj X) l D cyy 140 (xs (i + 1)) (by decide +kernel) S (r, S2) e2) (by decide +kernel) (by decide) rfl rfl (Nat.le_of_ble_eq_true rfl) ?_
  exact g_icmp_eq (tgt := 1615) X dL_law_720 (by decide) (fun _ => hgo S2 hI2) (fun c0 => absurd rfl c0)
theorem law_falls {z : Mx} {ad : Nat → Nat} {o : Option Value × St} {b u L i : Nat} {xs : Nat → Int32} {Inv : St → Prop} (X : CxOk z ad RL cL_law 7 (some .boolean) 1200) (hX : SX z b L xs) (hi : i + 6 ≤ L) (hp : pr_falls Inv) (S : St) (hInv : Inv S) (hgo : ∀ S2, Inv S2 → GW z ad o S2 1615 [(0, .ref b), (1, .ref (ad 0)), (2, .ref (ad 140)), (3, .ref u), (4, .int (nI i))] []) : GW z ad o S 725 [(0, .ref b), (1, .ref (ad 0)), (2, .ref (ad 140)), (3, .ref u), (4, .int (nI i))] [] := by
  obtain ⟨r, S2, e1, e2, hI2⟩ := hp S hInv (xs (i + 1)) (xs (i + 2))
  refine g_aload_n X dL_law_725 1 rfl rfl ?_
  refine g_aload_n X dL_law_726 0 rfl rfl ?_
  refine g_iload X dL_law_727 4 rfl ?_
  refine g_iconst (v := 1) X dL_law_729 (by decide) ?_
  refine g_iadd X dL_law_730 ?_
  refine g_sld (j := i + 1) X hX dL_law_731 (nI_add i 1) (by omega) ?_
  refine g_aload_n X dL_law_732 0 rfl rfl ?_
  refine g_iload X dL_law_733 4 rfl ?_
  refine g_iconst (v := 2) X dL_law_735 (by decide) ?_
  refine g_iadd X dL_law_736 ?_
  refine g_sld (j := i + 2) X hX dL_law_737 (nI_add i 2) (by omega) ?_
  refine g_callVi (As := [.int (xs (i + 1)), .int (xs (i + 2))]) (v := r) (S' := S) X dL_law_738 mlL_89 (fun l D cyy => tX10_falls (cx_inj X) l D cyy 0 (xs (i + 1)) (xs (i + 2)) (by decide +kernel) S r e1) (by decide +kernel) (by decide) rfl rfl (Nat.le_of_ble_eq_true rfl) ?_
  refine g_aload_n X dL_law_741 2 rfl rfl ?_
  refine g_aload_n X dL_law_742 0 rfl rfl ?_
  refine g_iload X dL_law_743 4 rfl ?_
  refine g_iconst (v := 1) X dL_law_745 (by decide) ?_
  refine g_iadd X dL_law_746 ?_
  refine g_sld (j := i + 1) X hX dL_law_747 (nI_add i 1) (by omega) ?_
  refine g_aload_n X dL_law_748 0 rfl rfl ?_
  refine g_iload X dL_law_749 4 rfl ?_
  refine g_iconst (v := 2) X dL_law_751 (by decide) ?_
  refine g_iadd X dL_law_752 ?_
  refine g_sld (j := i + 2) X hX dL_law_753 (nI_add i 2) (by omega) ?_
  refine g_callVi (As := [.int (xs (i + 1)), .int (xs (i + 2))]) (v := r) (S' := S2) X dL_law_754 mlL_92 (fun l D cyy => tX11_falls (cx_inj X) l D cyy 140 (xs (i + 1)) (xs (i + 2)) (by decide +kernel) S (r, S2) e2) (by decide +kernel) (by decide) rfl rfl (Nat.le_of_ble_eq_true rfl) ?_
  exact g_icmp_eq (tgt := 1615) X dL_law_757 (by decide) (fun _ => hgo S2 hI2) (fun c0 => absurd rfl c0)
theorem law_meet {z : Mx} {ad : Nat → Nat} {o : Option Value × St} {b u L i : Nat} {xs : Nat → Int32} {Inv : St → Prop} (X : CxOk z ad RL cL_law 7 (some .boolean) 1200) (hX : SX z b L xs) (hi : i + 6 ≤ L) (hp : pr_meet Inv) (S : St) (hInv : Inv S) (hgo : ∀ S2, Inv S2 → GW z ad o S2 1615 [(0, .ref b), (1, .ref (ad 0)), (2, .ref (ad 140)), (3, .ref u), (4, .int (nI i))] []) : GW z ad o S 762 [(0, .ref b), (1, .ref (ad 0)), (2, .ref (ad 140)), (3, .ref u), (4, .int (nI i))] [] := by
  obtain ⟨r, S2, e1, e2, hI2⟩ := hp S hInv (xs (i + 1)) (xs (i + 2))
  refine g_aload_n X dL_law_762 1 rfl rfl ?_
  refine g_aload_n X dL_law_763 0 rfl rfl ?_
  refine g_iload X dL_law_764 4 rfl ?_
  refine g_iconst (v := 1) X dL_law_766 (by decide) ?_
  refine g_iadd X dL_law_767 ?_
  refine g_sld (j := i + 1) X hX dL_law_768 (nI_add i 1) (by omega) ?_
  refine g_aload_n X dL_law_769 0 rfl rfl ?_
  refine g_iload X dL_law_770 4 rfl ?_
  refine g_iconst (v := 2) X dL_law_772 (by decide) ?_
  refine g_iadd X dL_law_773 ?_
  refine g_sld (j := i + 2) X hX dL_law_774 (nI_add i 2) (by omega) ?_
  refine g_callVi (As := [.int (xs (i + 1)), .int (xs (i + 2))]) (v := r) (S' := S) X dL_law_775 mlL_93 (fun l D cyy => tX10_meet (cx_inj X) l D cyy 0 (xs (i + 1)) (xs (i + 2)) (by decide +kernel) S r e1) (by decide +kernel) (by decide) rfl rfl (Nat.le_of_ble_eq_true rfl) ?_
  refine g_aload_n X dL_law_778 2 rfl rfl ?_
  refine g_aload_n X dL_law_779 0 rfl rfl ?_
  refine g_iload X dL_law_780 4 rfl ?_
  refine g_iconst (v := 1) X dL_law_782 (by decide) ?_
  refine g_iadd X dL_law_783 ?_
  refine g_sld (j := i + 1) X hX dL_law_784 (nI_add i 1) (by omega) ?_
  refine g_aload_n X dL_law_785 0 rfl rfl ?_
  refine g_iload X dL_law_786 4 rfl ?_
  refine g_iconst (v := 2) X dL_law_788 (by decide) ?_
  refine g_iadd X dL_law_789 ?_
  refine g_sld (j := i + 2) X hX dL_law_790 (nI_add i 2) (by omega) ?_
  refine g_callVi (As := [.int (xs (i + 1)), .int (xs (i + 2))]) (v := r) (S' := S2) X dL_law_791 mlL_96 (fun l D cyy => tX11_meet (cx_inj X) l D cyy 140 (xs (i + 1)) (xs (i + 2)) (by decide +kernel) S (r, S2) e2) (by decide +kernel) (by decide) rfl rfl (Nat.le_of_ble_eq_true rfl) ?_
  exact g_icmp_eq (tgt := 1615) X dL_law_794 (by decide) (fun _ => hgo S2 hI2) (fun c0 => absurd rfl c0)
theorem law_fair {z : Mx} {ad : Nat → Nat} {o : Option Value × St} {b u L i : Nat} {xs : Nat → Int32} {Inv : St → Prop} (X : CxOk z ad RL cL_law 7 (some .boolean) 1200) (hX : SX z b L xs) (hi : i + 6 ≤ L) (hp : pr_fair Inv) (S : St) (hInv : Inv S) (hgo : ∀ S2, Inv S2 → GW z ad o S2 1615 [(0, .ref b), (1, .ref (ad 0)), (2, .ref (ad 140)), (3, .ref u), (4, .int (nI i))] []) : GW z ad o S 799 [(0, .ref b), (1, .ref (ad 0)), (2, .ref (ad 140)), (3, .ref u), (4, .int (nI i))] [] := by
  obtain ⟨r, S2, e1, e2, hI2⟩ := hp S hInv (xs (i + 1))
  refine g_aload_n X dL_law_799 1 rfl rfl ?_
  refine g_aload_n X dL_law_800 0 rfl rfl ?_
  refine g_iload X dL_law_801 4 rfl ?_
  refine g_iconst (v := 1) X dL_law_803 (by decide) ?_
  refine g_iadd X dL_law_804 ?_
  refine g_sld (j := i + 1) X hX dL_law_805 (nI_add i 1) (by omega) ?_
  refine g_callVi (As := [.int (xs (i + 1))]) (v := r) (S' := S) X dL_law_806 mlL_97 (fun l D cyy => tX10_fair (cx_inj X) l D cyy 0 (xs (i + 1)) (by decide +kernel) S r e1) (by decide +kernel) (by decide) rfl rfl (Nat.le_of_ble_eq_true rfl) ?_
  refine g_aload_n X dL_law_809 2 rfl rfl ?_
  refine g_aload_n X dL_law_810 0 rfl rfl ?_
  refine g_iload X dL_law_811 4 rfl ?_
  refine g_iconst (v := 1) X dL_law_813 (by decide) ?_
  refine g_iadd X dL_law_814 ?_
  refine g_sld (j := i + 1) X hX dL_law_815 (nI_add i 1) (by omega) ?_
  refine g_callVi (As := [.int (xs (i + 1))]) (v := r) (S' := S2) X dL_law_816 mlL_100 (fun l D cyy => tX11_fair (cx_inj X) l D cyy 140 (xs (i + 1)) (by decide +kernel) S (r, S2) e2) (by decide +kernel) (by decide) rfl rfl (Nat.le_of_ble_eq_true rfl) ?_
  exact g_icmp_eq (tgt := 1615) X dL_law_819 (by decide) (fun _ => hgo S2 hI2) (fun c0 => absurd rfl c0)
theorem law_tune {z : Mx} {ad : Nat → Nat} {o : Option Value × St} {b u L i : Nat} {xs : Nat → Int32} {Inv : St → Prop} (X : CxOk z ad RL cL_law 7 (some .boolean) 1200) (hX : SX z b L xs) (hi : i + 6 ≤ L) (hp : pr_tune Inv) (S : St) (hInv : Inv S) (hgo : ∀ S2, Inv S2 → GW z ad o S2 1615 [(0, .ref b), (1, .ref (ad 0)), (2, .ref (ad 140)), (3, .ref u), (4, .int (nI i))] []) : GW z ad o S 892 [(0, .ref b), (1, .ref (ad 0)), (2, .ref (ad 140)), (3, .ref u), (4, .int (nI i))] [] := by
  obtain ⟨r, S1, S2, e1, e2, hI2⟩ := hp S hInv (xs (i + 1)) (xs (i + 2))
  refine g_aload_n X dL_law_892 1 rfl rfl ?_
  refine g_aload_n X dL_law_893 0 rfl rfl ?_
  refine g_iload X dL_law_894 4 rfl ?_
  refine g_iconst (v := 1) X dL_law_896 (by decide) ?_
  refine g_iadd X dL_law_897 ?_
  refine g_sld (j := i + 1) X hX dL_law_898 (nI_add i 1) (by omega) ?_
  refine g_aload_n X dL_law_899 0 rfl rfl ?_
  refine g_iload X dL_law_900 4 rfl ?_
  refine g_iconst (v := 2) X dL_law_902 (by decide) ?_
  refine g_iadd X dL_law_903 ?_
  refine g_sld (j := i + 2) X hX dL_law_904 (nI_add i 2) (by omega) ?_
  refine g_callVi (As := [.int (xs (i + 1)), .int (xs (i + 2))]) (v := r) (S' := S1) X dL_law_905 mlL_104 (fun l D cyy => tX10_tune (cx_inj X) l D cyy 0 (xs (i + 1)) (xs (i + 2)) (by decide +kernel) S (r, S1) e1) (by decide +kernel) (by decide) rfl rfl (Nat.le_of_ble_eq_true rfl) ?_
  refine g_aload_n X dL_law_908 2 rfl rfl ?_
  refine g_aload_n X dL_law_909 0 rfl rfl ?_
  refine g_iload X dL_law_910 4 rfl ?_
  refine g_iconst (v := 1) X dL_law_912 (by decide) ?_
  refine g_iadd X dL_law_913 ?_
  refine g_sld (j := i + 1) X hX dL_law_914 (nI_add i 1) (by omega) ?_
  refine g_aload_n X dL_law_915 0 rfl rfl ?_
  refine g_iload X dL_law_916 4 rfl ?_
  refine g_iconst (v := 2) X dL_law_918 (by decide) ?_
  refine g_iadd X dL_law_919 ?_
  refine g_sld (j := i + 2) X hX dL_law_920 (nI_add i 2) (by omega) ?_
  refine g_callVi (As := [.int (xs (i + 1)), .int (xs (i + 2))]) (v := r) (S' := S2) X dL_law_921 mlL_107 (fun l D cyy => tX11_tune (cx_inj X) l D cyy 140 (xs (i + 1)) (xs (i + 2)) (by decide +kernel) S1 (r, S2) e2) (by decide +kernel) (by decide) rfl rfl (Nat.le_of_ble_eq_true rfl) ?_
  exact g_icmp_eq (tgt := 1615) X dL_law_924 (by decide) (fun _ => hgo S2 hI2) (fun c0 => absurd rfl c0)
theorem law_tuned {z : Mx} {ad : Nat → Nat} {o : Option Value × St} {b u L i : Nat} {xs : Nat → Int32} {Inv : St → Prop} (X : CxOk z ad RL cL_law 7 (some .boolean) 1200) (hX : SX z b L xs) (hi : i + 6 ≤ L) (hp : pr_tuned Inv) (S : St) (hInv : Inv S) (hgo : ∀ S2, Inv S2 → GW z ad o S2 1615 [(0, .ref b), (1, .ref (ad 0)), (2, .ref (ad 140)), (3, .ref u), (4, .int (nI i))] []) : GW z ad o S 929 [(0, .ref b), (1, .ref (ad 0)), (2, .ref (ad 140)), (3, .ref u), (4, .int (nI i))] [] := by
  obtain ⟨r, S2, e1, e2, hI2⟩ := hp S hInv 
  refine g_aload_n X dL_law_929 1 rfl rfl ?_
  refine g_callVi (As := []) (v := r) (S' := S) X dL_law_930 mlL_108 (fun l D cyy => (by have h9 := tX10_tuned (cx_inj X) l D cyy 0 (by decide +kernel) S; rw [e1] at h9; exact h9)) (by decide +kernel) (by decide) rfl rfl (Nat.le_of_ble_eq_true rfl) ?_
  refine g_aload_n X dL_law_933 2 rfl rfl ?_
  refine g_callVi (As := []) (v := r) (S' := S2) X dL_law_934 mlL_111 (fun l D cyy => (by have h9 := tX11_tuned (cx_inj X) l D cyy 140 (by decide +kernel) S; rw [e2] at h9; exact h9)) (by decide +kernel) (by decide) rfl rfl (Nat.le_of_ble_eq_true rfl) ?_
  exact g_icmp_eq (tgt := 1615) X dL_law_937 (by decide) (fun _ => hgo S2 hI2) (fun c0 => absurd rfl c0)
