theorem dL_law_713 : decode cL_law 713 = .ok (.aload_n 1, 1) := by decide +kernel
theorem dL_law_714 : decode cL_law 714 = .ok (.aload_n 0, 1) := by decide +kernel
theorem dL_law_715 : decode cL_law 715 = .ok (.iload_n 3, 1) := by decide +kernel
theorem dL_law_716 : decode cL_law 716 = .ok (.iconst 1, 1) := by decide +kernel
theorem dL_law_717 : decode cL_law 717 = .ok (.iadd, 1) := by decide +kernel
theorem dL_law_718 : decode cL_law 718 = .ok (.iaload, 1) := by decide +kernel
theorem dL_law_719 : decode cL_law 719 = .ok (.aload_n 0, 1) := by decide +kernel
theorem dL_law_720 : decode cL_law 720 = .ok (.iload_n 3, 1) := by decide +kernel
theorem dL_law_721 : decode cL_law 721 = .ok (.iconst 2, 1) := by decide +kernel
theorem dL_law_722 : decode cL_law 722 = .ok (.iadd, 1) := by decide +kernel
theorem dL_law_723 : decode cL_law 723 = .ok (.iaload, 1) := by decide +kernel
theorem dL_law_724 : decode cL_law 724 = .ok (.aload_n 0, 1) := by decide +kernel
theorem dL_law_725 : decode cL_law 725 = .ok (.iload_n 3, 1) := by decide +kernel
theorem dL_law_726 : decode cL_law 726 = .ok (.iconst 3, 1) := by decide +kernel
theorem dL_law_727 : decode cL_law 727 = .ok (.iadd, 1) := by decide +kernel
theorem dL_law_728 : decode cL_law 728 = .ok (.iaload, 1) := by decide +kernel
theorem dL_law_729 : decode cL_law 729 = .ok (.aload_n 0, 1) := by decide +kernel
theorem dL_law_730 : decode cL_law 730 = .ok (.iload_n 3, 1) := by decide +kernel
theorem dL_law_731 : decode cL_law 731 = .ok (.iconst 4, 1) := by decide +kernel
theorem dL_law_732 : decode cL_law 732 = .ok (.iadd, 1) := by decide +kernel
theorem dL_law_733 : decode cL_law 733 = .ok (.iaload, 1) := by decide +kernel
theorem dL_law_734 : decode cL_law 734 = .ok (.invokevirtual 81, 3) := by decide +kernel
theorem dL_law_737 : decode cL_law 737 = .ok (.aload_n 2, 1) := by decide +kernel
theorem dL_law_738 : decode cL_law 738 = .ok (.aload_n 0, 1) := by decide +kernel
theorem dL_law_739 : decode cL_law 739 = .ok (.iload_n 3, 1) := by decide +kernel
theorem dL_law_740 : decode cL_law 740 = .ok (.iconst 1, 1) := by decide +kernel
theorem dL_law_741 : decode cL_law 741 = .ok (.iadd, 1) := by decide +kernel
theorem dL_law_742 : decode cL_law 742 = .ok (.iaload, 1) := by decide +kernel
theorem dL_law_743 : decode cL_law 743 = .ok (.aload_n 0, 1) := by decide +kernel
theorem dL_law_744 : decode cL_law 744 = .ok (.iload_n 3, 1) := by decide +kernel
theorem dL_law_745 : decode cL_law 745 = .ok (.iconst 2, 1) := by decide +kernel
theorem dL_law_746 : decode cL_law 746 = .ok (.iadd, 1) := by decide +kernel
theorem dL_law_747 : decode cL_law 747 = .ok (.iaload, 1) := by decide +kernel
theorem dL_law_748 : decode cL_law 748 = .ok (.aload_n 0, 1) := by decide +kernel
theorem dL_law_749 : decode cL_law 749 = .ok (.iload_n 3, 1) := by decide +kernel
theorem dL_law_750 : decode cL_law 750 = .ok (.iconst 3, 1) := by decide +kernel
theorem dL_law_751 : decode cL_law 751 = .ok (.iadd, 1) := by decide +kernel
theorem dL_law_752 : decode cL_law 752 = .ok (.iaload, 1) := by decide +kernel
theorem dL_law_753 : decode cL_law 753 = .ok (.aload_n 0, 1) := by decide +kernel
theorem dL_law_754 : decode cL_law 754 = .ok (.iload_n 3, 1) := by decide +kernel
theorem dL_law_755 : decode cL_law 755 = .ok (.iconst 4, 1) := by decide +kernel
theorem dL_law_756 : decode cL_law 756 = .ok (.iadd, 1) := by decide +kernel
theorem dL_law_757 : decode cL_law 757 = .ok (.iaload, 1) := by decide +kernel
theorem dL_law_758 : decode cL_law 758 = .ok (.invokevirtual 84, 3) := by decide +kernel
theorem dL_law_761 : decode cL_law 761 = .ok (.if_icmp .eq 682, 3) := by decide +kernel
theorem dL_law_766 : decode cL_law 766 = .ok (.aload_n 1, 1) := by decide +kernel
theorem dL_law_767 : decode cL_law 767 = .ok (.aload_n 0, 1) := by decide +kernel
theorem dL_law_768 : decode cL_law 768 = .ok (.iload_n 3, 1) := by decide +kernel
theorem dL_law_769 : decode cL_law 769 = .ok (.iconst 1, 1) := by decide +kernel
theorem dL_law_770 : decode cL_law 770 = .ok (.iadd, 1) := by decide +kernel
theorem dL_law_771 : decode cL_law 771 = .ok (.iaload, 1) := by decide +kernel
theorem dL_law_772 : decode cL_law 772 = .ok (.aload_n 0, 1) := by decide +kernel
theorem dL_law_773 : decode cL_law 773 = .ok (.iload_n 3, 1) := by decide +kernel
theorem dL_law_774 : decode cL_law 774 = .ok (.iconst 2, 1) := by decide +kernel
theorem dL_law_775 : decode cL_law 775 = .ok (.iadd, 1) := by decide +kernel
theorem dL_law_776 : decode cL_law 776 = .ok (.iaload, 1) := by decide +kernel
theorem dL_law_777 : decode cL_law 777 = .ok (.aload_n 0, 1) := by decide +kernel
theorem dL_law_778 : decode cL_law 778 = .ok (.iload_n 3, 1) := by decide +kernel
theorem dL_law_779 : decode cL_law 779 = .ok (.iconst 3, 1) := by decide +kernel
theorem dL_law_780 : decode cL_law 780 = .ok (.iadd, 1) := by decide +kernel
theorem dL_law_781 : decode cL_law 781 = .ok (.iaload, 1) := by decide +kernel
theorem dL_law_782 : decode cL_law 782 = .ok (.invokevirtual 85, 3) := by decide +kernel
theorem dL_law_785 : decode cL_law 785 = .ok (.aload_n 2, 1) := by decide +kernel
theorem dL_law_786 : decode cL_law 786 = .ok (.aload_n 0, 1) := by decide +kernel
theorem dL_law_787 : decode cL_law 787 = .ok (.iload_n 3, 1) := by decide +kernel
theorem dL_law_788 : decode cL_law 788 = .ok (.iconst 1, 1) := by decide +kernel
theorem dL_law_789 : decode cL_law 789 = .ok (.iadd, 1) := by decide +kernel
theorem dL_law_790 : decode cL_law 790 = .ok (.iaload, 1) := by decide +kernel
theorem dL_law_791 : decode cL_law 791 = .ok (.aload_n 0, 1) := by decide +kernel
theorem dL_law_792 : decode cL_law 792 = .ok (.iload_n 3, 1) := by decide +kernel
theorem dL_law_793 : decode cL_law 793 = .ok (.iconst 2, 1) := by decide +kernel
theorem dL_law_794 : decode cL_law 794 = .ok (.iadd, 1) := by decide +kernel
theorem dL_law_795 : decode cL_law 795 = .ok (.iaload, 1) := by decide +kernel
theorem dL_law_796 : decode cL_law 796 = .ok (.aload_n 0, 1) := by decide +kernel
theorem dL_law_797 : decode cL_law 797 = .ok (.iload_n 3, 1) := by decide +kernel
theorem dL_law_798 : decode cL_law 798 = .ok (.iconst 3, 1) := by decide +kernel
theorem dL_law_799 : decode cL_law 799 = .ok (.iadd, 1) := by decide +kernel
theorem dL_law_800 : decode cL_law 800 = .ok (.iaload, 1) := by decide +kernel
theorem dL_law_801 : decode cL_law 801 = .ok (.invokevirtual 88, 3) := by decide +kernel
theorem dL_law_804 : decode cL_law 804 = .ok (.if_icmp .eq 639, 3) := by decide +kernel
theorem dL_law_809 : decode cL_law 809 = .ok (.aload_n 1, 1) := by decide +kernel
theorem dL_law_810 : decode cL_law 810 = .ok (.aload_n 0, 1) := by decide +kernel
theorem dL_law_811 : decode cL_law 811 = .ok (.iload_n 3, 1) := by decide +kernel
theorem dL_law_812 : decode cL_law 812 = .ok (.iconst 1, 1) := by decide +kernel
theorem dL_law_813 : decode cL_law 813 = .ok (.iadd, 1) := by decide +kernel
theorem dL_law_814 : decode cL_law 814 = .ok (.iaload, 1) := by decide +kernel
theorem dL_law_815 : decode cL_law 815 = .ok (.aload_n 0, 1) := by decide +kernel
theorem dL_law_816 : decode cL_law 816 = .ok (.iload_n 3, 1) := by decide +kernel
theorem dL_law_817 : decode cL_law 817 = .ok (.iconst 2, 1) := by decide +kernel
theorem dL_law_818 : decode cL_law 818 = .ok (.iadd, 1) := by decide +kernel
theorem dL_law_819 : decode cL_law 819 = .ok (.iaload, 1) := by decide +kernel
theorem dL_law_820 : decode cL_law 820 = .ok (.aload_n 0, 1) := by decide +kernel
theorem dL_law_821 : decode cL_law 821 = .ok (.iload_n 3, 1) := by decide +kernel
theorem dL_law_822 : decode cL_law 822 = .ok (.iconst 3, 1) := by decide +kernel
theorem dL_law_823 : decode cL_law 823 = .ok (.iadd, 1) := by decide +kernel
theorem dL_law_824 : decode cL_law 824 = .ok (.iaload, 1) := by decide +kernel
theorem dL_law_825 : decode cL_law 825 = .ok (.invokevirtual 89, 3) := by decide +kernel
theorem dL_law_828 : decode cL_law 828 = .ok (.aload_n 2, 1) := by decide +kernel
theorem dL_law_829 : decode cL_law 829 = .ok (.aload_n 0, 1) := by decide +kernel
theorem dL_law_830 : decode cL_law 830 = .ok (.iload_n 3, 1) := by decide +kernel
theorem dL_law_831 : decode cL_law 831 = .ok (.iconst 1, 1) := by decide +kernel
theorem dL_law_832 : decode cL_law 832 = .ok (.iadd, 1) := by decide +kernel
theorem dL_law_833 : decode cL_law 833 = .ok (.iaload, 1) := by decide +kernel
theorem dL_law_834 : decode cL_law 834 = .ok (.aload_n 0, 1) := by decide +kernel
theorem dL_law_835 : decode cL_law 835 = .ok (.iload_n 3, 1) := by decide +kernel
theorem dL_law_836 : decode cL_law 836 = .ok (.iconst 2, 1) := by decide +kernel
theorem dL_law_837 : decode cL_law 837 = .ok (.iadd, 1) := by decide +kernel
theorem dL_law_838 : decode cL_law 838 = .ok (.iaload, 1) := by decide +kernel
theorem dL_law_839 : decode cL_law 839 = .ok (.aload_n 0, 1) := by decide +kernel
theorem dL_law_840 : decode cL_law 840 = .ok (.iload_n 3, 1) := by decide +kernel
theorem dL_law_841 : decode cL_law 841 = .ok (.iconst 3, 1) := by decide +kernel
theorem dL_law_842 : decode cL_law 842 = .ok (.iadd, 1) := by decide +kernel
theorem dL_law_843 : decode cL_law 843 = .ok (.iaload, 1) := by decide +kernel
theorem dL_law_844 : decode cL_law 844 = .ok (.invokevirtual 92, 3) := by decide +kernel
theorem dL_law_847 : decode cL_law 847 = .ok (.if_icmp .eq 596, 3) := by decide +kernel
theorem dL_law_852 : decode cL_law 852 = .ok (.aload_n 1, 1) := by decide +kernel
theorem dL_law_853 : decode cL_law 853 = .ok (.aload_n 0, 1) := by decide +kernel
theorem dL_law_854 : decode cL_law 854 = .ok (.iload_n 3, 1) := by decide +kernel
theorem dL_law_855 : decode cL_law 855 = .ok (.iconst 1, 1) := by decide +kernel
theorem dL_law_856 : decode cL_law 856 = .ok (.iadd, 1) := by decide +kernel
theorem dL_law_857 : decode cL_law 857 = .ok (.iaload, 1) := by decide +kernel
theorem dL_law_858 : decode cL_law 858 = .ok (.aload_n 0, 1) := by decide +kernel
theorem dL_law_859 : decode cL_law 859 = .ok (.iload_n 3, 1) := by decide +kernel
theorem dL_law_860 : decode cL_law 860 = .ok (.iconst 2, 1) := by decide +kernel
theorem dL_law_861 : decode cL_law 861 = .ok (.iadd, 1) := by decide +kernel
theorem dL_law_862 : decode cL_law 862 = .ok (.iaload, 1) := by decide +kernel
theorem dL_law_863 : decode cL_law 863 = .ok (.invokevirtual 93, 3) := by decide +kernel
theorem dL_law_866 : decode cL_law 866 = .ok (.aload_n 2, 1) := by decide +kernel
theorem dL_law_867 : decode cL_law 867 = .ok (.aload_n 0, 1) := by decide +kernel
theorem dL_law_868 : decode cL_law 868 = .ok (.iload_n 3, 1) := by decide +kernel
theorem dL_law_869 : decode cL_law 869 = .ok (.iconst 1, 1) := by decide +kernel
theorem dL_law_870 : decode cL_law 870 = .ok (.iadd, 1) := by decide +kernel
theorem dL_law_871 : decode cL_law 871 = .ok (.iaload, 1) := by decide +kernel
theorem dL_law_872 : decode cL_law 872 = .ok (.aload_n 0, 1) := by decide +kernel
theorem dL_law_873 : decode cL_law 873 = .ok (.iload_n 3, 1) := by decide +kernel
theorem dL_law_874 : decode cL_law 874 = .ok (.iconst 2, 1) := by decide +kernel
theorem dL_law_875 : decode cL_law 875 = .ok (.iadd, 1) := by decide +kernel
theorem dL_law_876 : decode cL_law 876 = .ok (.iaload, 1) := by decide +kernel
theorem dL_law_877 : decode cL_law 877 = .ok (.invokevirtual 96, 3) := by decide +kernel
theorem dL_law_880 : decode cL_law 880 = .ok (.if_icmp .eq 563, 3) := by decide +kernel
theorem dL_law_885 : decode cL_law 885 = .ok (.aload_n 1, 1) := by decide +kernel
theorem dL_law_886 : decode cL_law 886 = .ok (.aload_n 0, 1) := by decide +kernel
theorem dL_law_887 : decode cL_law 887 = .ok (.iload_n 3, 1) := by decide +kernel
theorem dL_law_888 : decode cL_law 888 = .ok (.iconst 1, 1) := by decide +kernel
theorem dL_law_889 : decode cL_law 889 = .ok (.iadd, 1) := by decide +kernel
theorem dL_law_890 : decode cL_law 890 = .ok (.iaload, 1) := by decide +kernel
theorem dL_law_891 : decode cL_law 891 = .ok (.aload_n 0, 1) := by decide +kernel
theorem dL_law_892 : decode cL_law 892 = .ok (.iload_n 3, 1) := by decide +kernel
theorem dL_law_893 : decode cL_law 893 = .ok (.iconst 2, 1) := by decide +kernel
theorem dL_law_894 : decode cL_law 894 = .ok (.iadd, 1) := by decide +kernel
theorem dL_law_895 : decode cL_law 895 = .ok (.iaload, 1) := by decide +kernel
theorem dL_law_896 : decode cL_law 896 = .ok (.aload_n 0, 1) := by decide +kernel
theorem dL_law_897 : decode cL_law 897 = .ok (.iload_n 3, 1) := by decide +kernel
theorem dL_law_898 : decode cL_law 898 = .ok (.iconst 3, 1) := by decide +kernel
theorem dL_law_899 : decode cL_law 899 = .ok (.iadd, 1) := by decide +kernel
theorem dL_law_900 : decode cL_law 900 = .ok (.iaload, 1) := by decide +kernel
theorem dL_law_901 : decode cL_law 901 = .ok (.invokevirtual 97, 3) := by decide +kernel
theorem dL_law_904 : decode cL_law 904 = .ok (.aload_n 2, 1) := by decide +kernel
theorem dL_law_905 : decode cL_law 905 = .ok (.aload_n 0, 1) := by decide +kernel
theorem dL_law_906 : decode cL_law 906 = .ok (.iload_n 3, 1) := by decide +kernel
theorem dL_law_907 : decode cL_law 907 = .ok (.iconst 1, 1) := by decide +kernel
theorem dL_law_908 : decode cL_law 908 = .ok (.iadd, 1) := by decide +kernel
theorem dL_law_909 : decode cL_law 909 = .ok (.iaload, 1) := by decide +kernel
theorem dL_law_910 : decode cL_law 910 = .ok (.aload_n 0, 1) := by decide +kernel
theorem dL_law_911 : decode cL_law 911 = .ok (.iload_n 3, 1) := by decide +kernel
theorem dL_law_912 : decode cL_law 912 = .ok (.iconst 2, 1) := by decide +kernel
theorem dL_law_913 : decode cL_law 913 = .ok (.iadd, 1) := by decide +kernel
theorem dL_law_914 : decode cL_law 914 = .ok (.iaload, 1) := by decide +kernel
theorem dL_law_915 : decode cL_law 915 = .ok (.aload_n 0, 1) := by decide +kernel
theorem dL_law_916 : decode cL_law 916 = .ok (.iload_n 3, 1) := by decide +kernel
theorem dL_law_917 : decode cL_law 917 = .ok (.iconst 3, 1) := by decide +kernel
theorem dL_law_918 : decode cL_law 918 = .ok (.iadd, 1) := by decide +kernel
theorem dL_law_919 : decode cL_law 919 = .ok (.iaload, 1) := by decide +kernel
theorem dL_law_920 : decode cL_law 920 = .ok (.invokevirtual 100, 3) := by decide +kernel
theorem dL_law_923 : decode cL_law 923 = .ok (.if_icmp .eq 520, 3) := by decide +kernel
set_option maxHeartbeats 4000000 in
set_option maxRecDepth 100000 in
theorem law_sum {p : Program} {l : Launch} {e : Env} {s : State} {m : MethodId} {below : List Frame} {meth : Method} {c : Code} {b : Nat} {xs : Nat → Int32} {H : Heap} {locs : List Loc} {ls : Array Slot} {dC : Nat → ClassId} {dI : Nat → Nat → Nat} {aC : Nat → ClassId} {hh bb mm d : Nat} (C0 : lw_At p s m meth c b 6 xs) (hK : zK (dC, dI) aC s) (hR : zReady s H dC dI aC hh bb mm d) (hS : va_S (fun q => s.heap.size ≤ q) s.heap H locs) (hl : lv_has ls 4 [(3, .int 0), (2, .ref mm), (1, .ref hh), (0, .ref b)]) : W p l e room_1 s m #[Value.ref b] below meth c H locs 8431 1660372 (lw_Z below #[Value.ref b] s) (F0 m 713 ls []) := by
  have C1 := C0
  obtain ⟨hx, hb, hr, hml, hown0, hts, hX, hbl, hlocks, hgv⟩ := C0
  obtain ⟨hPh, hFh, hPm, hFm, ez1, ez2, ez3, ez4, hz0⟩ := hR
  have hown : s.vm.findClass RL = some m.cls := hown0
  have hall : ∀ w ∈ zAll, w.before #[Value.ref b] s = true := fun w h => hts w (zAll_in w h)
  have hbA : ¬ (fun q : Nat => s.heap.size ≤ q) b := Nat.not_le.mpr hbl
  generalize hAe : (fun q : Nat => s.heap.size ≤ q) = A at hS hbA
  have hA : ∀ q : Nat, s.heap.size ≤ q → A q := fun q h => by rw [← hAe]; exact h
  generalize hQ : lw_Z below #[Value.ref b] s = QQ
  obtain ⟨x1, hx1⟩ : ∃ y, xs (1 : Int32).toNatClampNeg = y := ⟨_, rfl⟩
  obtain ⟨x2, hx2⟩ : ∃ y, xs (2 : Int32).toNatClampNeg = y := ⟨_, rfl⟩
  obtain ⟨x3, hx3⟩ : ∃ y, xs (3 : Int32).toNatClampNeg = y := ⟨_, rfl⟩
  obtain ⟨x4, hx4⟩ : ∃ y, xs (4 : Int32).toNatClampNeg = y := ⟨_, rfl⟩
  by_cases hk : zok x1 = true
  · obtain ⟨a1, ea1⟩ : ∃ q, q = bb + (1 + 6 * x1.toNatClampNeg) := ⟨_, rfl⟩
    obtain ⟨a2, ea2⟩ : ∃ q, q = d + (7485 + 9 * x1.toNatClampNeg) := ⟨_, rfl⟩
    have hn12 := zok_12 hk
    have hsl : zslot bb x1 = some a1 := by rw [ea1]; exact zslot_1 hk
    have hSl : va_P (dC, dI) vwCl (zSlotW aC a1) H := by rw [ea1]; exact hFh _ hn12
    have hTh : va_P (dC, dI) vwCl (zThW aC a2) H := by rw [ea2]; exact hFm _ hn12
    have hP : va_P (dC, dI) vwCl [(hh, .inr (10, [.ref (bb + 0), .ref (bb + 73), .ref (bb + 75), .ref (bb + 76), .ref (bb + 80), .ref (bb + 81), .ref (bb + 88), .ref (bb + 95), .ref (bb + 100), .ref (bb + 106), .int 0, .ref (bb + 107), .int 0])), (bb + 0, .inl (aC 3, 12, .inr (.inr (.inr (.inr (zrefs (fun i => bb + (1 + 6 * i)) 12)))))), (a1, .inr (5, [.int 0, .int 0, .int 0, .int 0, .int 0, .int 0, .int 0, .ref (a1 + 1), .ref (a1 + 2), .ref (a1 + 3), .ref (a1 + 4), .ref (a1 + 5)])), (mm, .inr (15, [.ref (d + 0), .int 0, .ref (d + 1), .int 0, .ref (d + 2), .ref (d + 3), .ref (d + 68), .ref (d + 77), .ref (d + 78), .int 0, .int 0, .ref (d + 79), .int 0, .int 0, .int 0, .ref (d + 80), .int 0, .int 0, .int 0, .int 0, .ref (d + 81), .ref (d + 82), .int (-1), .ref (d + 91), .int 0, .int 0, .ref (d + 92), .int 0, .ref (d + 93), .int 0, .ref (d + 94), .int 0, .ref (d + 95), .ref (d + 96), .ref (d + 97), .ref (d + 98), .int 0, .int 0, .ref (d + 99), .null, .null, .null, .null, .null, .ref (d + 148), .ref (d + 175), .ref (d + 176), .ref (d + 177), .int 0, .ref (d + 178), .ref (d + 179), .ref (d + 180), .ref (d + 185), .ref (d + 190), .ref (d + 191), .ref (d + 192), .ref (d + 193), .ref (d + 201), .ref (d + 209), .ref (d + 210), .ref (d + 211), .ref (d + 272), .ref (d + 273), .int 0, .ref (d + 274)])), (d + 81, .inl (aC 6, 12, .inr (.inr (.inr (.inr (zrefs (fun i => d + (7485 + 9 * i)) 12)))))), (a2, .inr (13, [.int 0, .ref (a2 + 1 + 0), .ref (a2 + 1 + 1), .int 0, .int 0, .int 0, .ref (a2 + 1 + 2), .ref (a2 + 1 + 3), .ref (a2 + 1 + 4), .ref (a2 + 1 + 5), .int 0, .ref (a2 + 1 + 6), .int 0, .int 0, .ref (a2 + 1 + 7)]))] H := zP_c (hPh 0 _ rfl) (zP_c (hPh 1 _ rfl) (zP_c (hSl 0 _ rfl) (zP_c (hPm 0 _ rfl) (zP_c (hPm 15 _ rfl) (zP_c (hTh 0 _ rfl) (zP_n))))))
    have hD : va_D A [(hh, .inr (10, [.ref (bb + 0), .ref (bb + 73), .ref (bb + 75), .ref (bb + 76), .ref (bb + 80), .ref (bb + 81), .ref (bb + 88), .ref (bb + 95), .ref (bb + 100), .ref (bb + 106), .int 0, .ref (bb + 107), .int 0])), (bb + 0, .inl (aC 3, 12, .inr (.inr (.inr (.inr (zrefs (fun i => bb + (1 + 6 * i)) 12)))))), (a1, .inr (5, [.int 0, .int 0, .int 0, .int 0, .int 0, .int 0, .int 0, .ref (a1 + 1), .ref (a1 + 2), .ref (a1 + 3), .ref (a1 + 4), .ref (a1 + 5)])), (mm, .inr (15, [.ref (d + 0), .int 0, .ref (d + 1), .int 0, .ref (d + 2), .ref (d + 3), .ref (d + 68), .ref (d + 77), .ref (d + 78), .int 0, .int 0, .ref (d + 79), .int 0, .int 0, .int 0, .ref (d + 80), .int 0, .int 0, .int 0, .int 0, .ref (d + 81), .ref (d + 82), .int (-1), .ref (d + 91), .int 0, .int 0, .ref (d + 92), .int 0, .ref (d + 93), .int 0, .ref (d + 94), .int 0, .ref (d + 95), .ref (d + 96), .ref (d + 97), .ref (d + 98), .int 0, .int 0, .ref (d + 99), .null, .null, .null, .null, .null, .ref (d + 148), .ref (d + 175), .ref (d + 176), .ref (d + 177), .int 0, .ref (d + 178), .ref (d + 179), .ref (d + 180), .ref (d + 185), .ref (d + 190), .ref (d + 191), .ref (d + 192), .ref (d + 193), .ref (d + 201), .ref (d + 209), .ref (d + 210), .ref (d + 211), .ref (d + 272), .ref (d + 273), .int 0, .ref (d + 274)])), (d + 81, .inl (aC 6, 12, .inr (.inr (.inr (.inr (zrefs (fun i => d + (7485 + 9 * i)) 12)))))), (a2, .inr (13, [.int 0, .ref (a2 + 1 + 0), .ref (a2 + 1 + 1), .int 0, .int 0, .int 0, .ref (a2 + 1 + 2), .ref (a2 + 1 + 3), .ref (a2 + 1 + 4), .ref (a2 + 1 + 5), .int 0, .ref (a2 + 1 + 6), .int 0, .int 0, .ref (a2 + 1 + 7)]))] := zUp_D (lo := s.heap.size) hA (zUp_c (by omega) (zUp_c (by omega) (zUp_c (by omega) (zUp_c (by omega) (zUp_c (by omega) (zUp_c (by omega) (zUp_n)))))))
    clear hPh hFh hPm hFm hSl hTh
    refine lv_aload_n hx hb dL_law_713 rfl (lv_at hl 2 rfl) ?_
    refine lv_aload_n hx hb dL_law_714 rfl (lv_at hl 3 rfl) ?_
    refine lv_iload_n hx hb dL_law_715 rfl (lv_at hl 0 rfl) ?_
    refine lv_iconst (v := 1) hx hb dL_law_716 (by decide) ?_
    refine lv_iadd hx hb dL_law_717 ?_
    refine lv_topi (fun y140191 ey140191 => ?_)
    obtain rfl : y140191 = 1 := by rw [ey140191]; decide
    try clear ey140191
    show W p l e _ s m _ below meth c _ _ _ _ QQ (F0 m 718 ls [.int 1, .ref b, .ref hh])
    refine zsld hx hb hX hbl hbA hS (zvp (by decide)) hx1 dL_law_718 ?_
    refine lv_aload_n hx hb dL_law_719 rfl (lv_at hl 3 rfl) ?_
    refine lv_iload_n hx hb dL_law_720 rfl (lv_at hl 0 rfl) ?_
    refine lv_iconst (v := 2) hx hb dL_law_721 (by decide) ?_
    refine lv_iadd hx hb dL_law_722 ?_
    refine lv_topi (fun y140192 ey140192 => ?_)
    obtain rfl : y140192 = 2 := by rw [ey140192]; decide
    try clear ey140192
    show W p l e _ s m _ below meth c _ _ _ _ QQ (F0 m 723 ls [.int 2, .ref b, .int x1, .ref hh])
    refine zsld hx hb hX hbl hbA hS (zvp (by decide)) hx2 dL_law_723 ?_
    refine lv_aload_n hx hb dL_law_724 rfl (lv_at hl 3 rfl) ?_
    refine lv_iload_n hx hb dL_law_725 rfl (lv_at hl 0 rfl) ?_
    refine lv_iconst (v := 3) hx hb dL_law_726 (by decide) ?_
    refine lv_iadd hx hb dL_law_727 ?_
    refine lv_topi (fun y140193 ey140193 => ?_)
    obtain rfl : y140193 = 3 := by rw [ey140193]; decide
    try clear ey140193
    show W p l e _ s m _ below meth c _ _ _ _ QQ (F0 m 728 ls [.int 3, .ref b, .int x2, .int x1, .ref hh])
    refine zsld hx hb hX hbl hbA hS (zvp (by decide)) hx3 dL_law_728 ?_
    refine lv_aload_n hx hb dL_law_729 rfl (lv_at hl 3 rfl) ?_
    refine lv_iload_n hx hb dL_law_730 rfl (lv_at hl 0 rfl) ?_
    refine lv_iconst (v := 4) hx hb dL_law_731 (by decide) ?_
    refine lv_iadd hx hb dL_law_732 ?_
    refine lv_topi (fun y140194 ey140194 => ?_)
    obtain rfl : y140194 = 4 := by rw [ey140194]; decide
    try clear ey140194
    show W p l e _ s m _ below meth c _ _ _ _ QQ (F0 m 733 ls [.int 4, .ref b, .int x3, .int x2, .int x1, .ref hh])
    refine zsld hx hb hX hbl hbA hS (zvp (by decide)) hx4 dL_law_733 ?_
    refine zro_i hS hA (va_runV (As := [.int x1, .int x2, .int x3, .int x4]) (rest := []) ⟨hx, hb, hml, hown, hall⟩ (c_X11_sum_in l dC dI aC hh bb a1 x1 x2 x3 x4 H.size hsl) (cwV 4 hall (zgV zw_617 zw_619 zw_620 zw_802 g_X11_sum rfl) rfl rfl rfl (by decide +kernel) ⟨Nat.le_of_ble_eq_true rfl, Nat.le_of_ble_eq_true rfl⟩) (zPre_V (As := [.int x1, .int x2, .int x3, .int x4]) hK hP hD [0, 1, 2] rfl (by decide +kernel) (ci := 10) (q0 := 0) rfl rfl) rfl rfl hl.1 rfl (lv_room (Nat.le_of_ble_eq_true rfl)) dL_law_734 ⟨Nat.le_of_ble_eq_true rfl, Nat.le_of_ble_eq_true rfl⟩) (fun ra L140195 hw hS' => ?_)
    clear hS
    have hS := hS'
    clear hS'
    have hwa := hw
    clear hw
    refine lv_aload_n hx hb dL_law_737 rfl (lv_at hl 1 rfl) ?_
    refine lv_aload_n hx hb dL_law_738 rfl (lv_at hl 3 rfl) ?_
    refine lv_iload_n hx hb dL_law_739 rfl (lv_at hl 0 rfl) ?_
    show W p l e _ s m _ below meth c _ _ _ _ QQ (F0 m 740 ls [.int 0, .ref b, .ref mm, .int ra])
    refine lv_iconst (v := 1) hx hb dL_law_740 (by decide) ?_
    refine lv_iadd hx hb dL_law_741 ?_
    refine lv_topi (fun y140196 ey140196 => ?_)
    obtain rfl : y140196 = 1 := by rw [ey140196]; decide
    try clear ey140196
    refine zsld hx hb hX hbl hbA hS (zvp (by decide)) hx1 dL_law_742 ?_
    refine lv_aload_n hx hb dL_law_743 rfl (lv_at hl 3 rfl) ?_
    refine lv_iload_n hx hb dL_law_744 rfl (lv_at hl 0 rfl) ?_
    show W p l e _ s m _ below meth c _ _ _ _ QQ (F0 m 745 ls [.int 0, .ref b, .int x1, .ref mm, .int ra])
    refine lv_iconst (v := 2) hx hb dL_law_745 (by decide) ?_
    refine lv_iadd hx hb dL_law_746 ?_
    refine lv_topi (fun y140197 ey140197 => ?_)
    obtain rfl : y140197 = 2 := by rw [ey140197]; decide
    try clear ey140197
    refine zsld hx hb hX hbl hbA hS (zvp (by decide)) hx2 dL_law_747 ?_
    refine lv_aload_n hx hb dL_law_748 rfl (lv_at hl 3 rfl) ?_
    refine lv_iload_n hx hb dL_law_749 rfl (lv_at hl 0 rfl) ?_
    show W p l e _ s m _ below meth c _ _ _ _ QQ (F0 m 750 ls [.int 0, .ref b, .int x2, .int x1, .ref mm, .int ra])
    refine lv_iconst (v := 3) hx hb dL_law_750 (by decide) ?_
    refine lv_iadd hx hb dL_law_751 ?_
    refine lv_topi (fun y140198 ey140198 => ?_)
    obtain rfl : y140198 = 3 := by rw [ey140198]; decide
    try clear ey140198
    refine zsld hx hb hX hbl hbA hS (zvp (by decide)) hx3 dL_law_752 ?_
    refine lv_aload_n hx hb dL_law_753 rfl (lv_at hl 3 rfl) ?_
    refine lv_iload_n hx hb dL_law_754 rfl (lv_at hl 0 rfl) ?_
    show W p l e _ s m _ below meth c _ _ _ _ QQ (F0 m 755 ls [.int 0, .ref b, .int x3, .int x2, .int x1, .ref mm, .int ra])
    refine lv_iconst (v := 4) hx hb dL_law_755 (by decide) ?_
    refine lv_iadd hx hb dL_law_756 ?_
    refine lv_topi (fun y140199 ey140199 => ?_)
    obtain rfl : y140199 = 4 := by rw [ey140199]; decide
    try clear ey140199
    refine zsld hx hb hX hbl hbA hS (zvp (by decide)) hx4 dL_law_757 ?_
    refine zro_i hS hA (va_runV (As := [.int x1, .int x2, .int x3, .int x4]) (rest := [.int ra]) ⟨hx, hb, hml, hown, hall⟩ (c_X16_sum__in l dC dI aC mm d a2 x1 x2 x3 x4 H.size hk ea2) (cwV 4 hall (zgV zw_621 zw_623 zw_624 zw_812 g_X16_sum_ rfl) rfl rfl rfl (by decide +kernel) ⟨Nat.le_of_ble_eq_true rfl, Nat.le_of_ble_eq_true rfl⟩) (zPre_V (As := [.int x1, .int x2, .int x3, .int x4]) hK hP hD [3, 4, 5] rfl (by decide +kernel) (ci := 15) (q0 := 0) rfl rfl) rfl rfl hl.1 rfl (lv_room (Nat.le_of_ble_eq_true rfl)) dL_law_758 ⟨Nat.le_of_ble_eq_true rfl, Nat.le_of_ble_eq_true rfl⟩) (fun rb L140200 hw hS' => ?_)
    clear hS
    have hS := hS'
    clear hS'
    have hwb := hw
    clear hw
    refine lv_icmp_eq (tgt := 1443) hx hb dL_law_761 (by decide) (fun _ => ?_) (fun hne => absurd (hwa.trans hwb.symm) hne)
    subst hQ
    subst hAe
    exact law_tail C1 (Nat.le_of_ble_eq_true rfl) (Nat.le_of_ble_eq_true rfl) hS (lv_sub hl [0, 3] rfl)
  · have hP : va_P (dC, dI) vwCl [(hh, .inr (10, [.ref (bb + 0), .ref (bb + 73), .ref (bb + 75), .ref (bb + 76), .ref (bb + 80), .ref (bb + 81), .ref (bb + 88), .ref (bb + 95), .ref (bb + 100), .ref (bb + 106), .int 0, .ref (bb + 107), .int 0])), (bb + 0, .inl (aC 3, 12, .inr (.inr (.inr (.inr (zrefs (fun i => bb + (1 + 6 * i)) 12)))))), (mm, .inr (15, [.ref (d + 0), .int 0, .ref (d + 1), .int 0, .ref (d + 2), .ref (d + 3), .ref (d + 68), .ref (d + 77), .ref (d + 78), .int 0, .int 0, .ref (d + 79), .int 0, .int 0, .int 0, .ref (d + 80), .int 0, .int 0, .int 0, .int 0, .ref (d + 81), .ref (d + 82), .int (-1), .ref (d + 91), .int 0, .int 0, .ref (d + 92), .int 0, .ref (d + 93), .int 0, .ref (d + 94), .int 0, .ref (d + 95), .ref (d + 96), .ref (d + 97), .ref (d + 98), .int 0, .int 0, .ref (d + 99), .null, .null, .null, .null, .null, .ref (d + 148), .ref (d + 175), .ref (d + 176), .ref (d + 177), .int 0, .ref (d + 178), .ref (d + 179), .ref (d + 180), .ref (d + 185), .ref (d + 190), .ref (d + 191), .ref (d + 192), .ref (d + 193), .ref (d + 201), .ref (d + 209), .ref (d + 210), .ref (d + 211), .ref (d + 272), .ref (d + 273), .int 0, .ref (d + 274)])), (d + 81, .inl (aC 6, 12, .inr (.inr (.inr (.inr (zrefs (fun i => d + (7485 + 9 * i)) 12))))))] H := zP_c (hPh 0 _ rfl) (zP_c (hPh 1 _ rfl) (zP_c (hPm 0 _ rfl) (zP_c (hPm 15 _ rfl) (zP_n))))
    have hD : va_D A [(hh, .inr (10, [.ref (bb + 0), .ref (bb + 73), .ref (bb + 75), .ref (bb + 76), .ref (bb + 80), .ref (bb + 81), .ref (bb + 88), .ref (bb + 95), .ref (bb + 100), .ref (bb + 106), .int 0, .ref (bb + 107), .int 0])), (bb + 0, .inl (aC 3, 12, .inr (.inr (.inr (.inr (zrefs (fun i => bb + (1 + 6 * i)) 12)))))), (mm, .inr (15, [.ref (d + 0), .int 0, .ref (d + 1), .int 0, .ref (d + 2), .ref (d + 3), .ref (d + 68), .ref (d + 77), .ref (d + 78), .int 0, .int 0, .ref (d + 79), .int 0, .int 0, .int 0, .ref (d + 80), .int 0, .int 0, .int 0, .int 0, .ref (d + 81), .ref (d + 82), .int (-1), .ref (d + 91), .int 0, .int 0, .ref (d + 92), .int 0, .ref (d + 93), .int 0, .ref (d + 94), .int 0, .ref (d + 95), .ref (d + 96), .ref (d + 97), .ref (d + 98), .int 0, .int 0, .ref (d + 99), .null, .null, .null, .null, .null, .ref (d + 148), .ref (d + 175), .ref (d + 176), .ref (d + 177), .int 0, .ref (d + 178), .ref (d + 179), .ref (d + 180), .ref (d + 185), .ref (d + 190), .ref (d + 191), .ref (d + 192), .ref (d + 193), .ref (d + 201), .ref (d + 209), .ref (d + 210), .ref (d + 211), .ref (d + 272), .ref (d + 273), .int 0, .ref (d + 274)])), (d + 81, .inl (aC 6, 12, .inr (.inr (.inr (.inr (zrefs (fun i => d + (7485 + 9 * i)) 12))))))] := zUp_D (lo := s.heap.size) hA (zUp_c (by omega) (zUp_c (by omega) (zUp_c (by omega) (zUp_c (by omega) (zUp_n)))))
    clear hPh hFh hPm hFm
    refine lv_aload_n hx hb dL_law_713 rfl (lv_at hl 2 rfl) ?_
    refine lv_aload_n hx hb dL_law_714 rfl (lv_at hl 3 rfl) ?_
    refine lv_iload_n hx hb dL_law_715 rfl (lv_at hl 0 rfl) ?_
    refine lv_iconst (v := 1) hx hb dL_law_716 (by decide) ?_
    refine lv_iadd hx hb dL_law_717 ?_
    refine lv_topi (fun y140201 ey140201 => ?_)
    obtain rfl : y140201 = 1 := by rw [ey140201]; decide
    try clear ey140201
    show W p l e _ s m _ below meth c _ _ _ _ QQ (F0 m 718 ls [.int 1, .ref b, .ref hh])
    refine zsld hx hb hX hbl hbA hS (zvp (by decide)) hx1 dL_law_718 ?_
    refine lv_aload_n hx hb dL_law_719 rfl (lv_at hl 3 rfl) ?_
    refine lv_iload_n hx hb dL_law_720 rfl (lv_at hl 0 rfl) ?_
    refine lv_iconst (v := 2) hx hb dL_law_721 (by decide) ?_
    refine lv_iadd hx hb dL_law_722 ?_
    refine lv_topi (fun y140202 ey140202 => ?_)
    obtain rfl : y140202 = 2 := by rw [ey140202]; decide
    try clear ey140202
    show W p l e _ s m _ below meth c _ _ _ _ QQ (F0 m 723 ls [.int 2, .ref b, .int x1, .ref hh])
    refine zsld hx hb hX hbl hbA hS (zvp (by decide)) hx2 dL_law_723 ?_
    refine lv_aload_n hx hb dL_law_724 rfl (lv_at hl 3 rfl) ?_
    refine lv_iload_n hx hb dL_law_725 rfl (lv_at hl 0 rfl) ?_
    refine lv_iconst (v := 3) hx hb dL_law_726 (by decide) ?_
    refine lv_iadd hx hb dL_law_727 ?_
    refine lv_topi (fun y140203 ey140203 => ?_)
    obtain rfl : y140203 = 3 := by rw [ey140203]; decide
    try clear ey140203
    show W p l e _ s m _ below meth c _ _ _ _ QQ (F0 m 728 ls [.int 3, .ref b, .int x2, .int x1, .ref hh])
    refine zsld hx hb hX hbl hbA hS (zvp (by decide)) hx3 dL_law_728 ?_
    refine lv_aload_n hx hb dL_law_729 rfl (lv_at hl 3 rfl) ?_
    refine lv_iload_n hx hb dL_law_730 rfl (lv_at hl 0 rfl) ?_
    refine lv_iconst (v := 4) hx hb dL_law_731 (by decide) ?_
    refine lv_iadd hx hb dL_law_732 ?_
    refine lv_topi (fun y140204 ey140204 => ?_)
    obtain rfl : y140204 = 4 := by rw [ey140204]; decide
    try clear ey140204
    show W p l e _ s m _ below meth c _ _ _ _ QQ (F0 m 733 ls [.int 4, .ref b, .int x3, .int x2, .int x1, .ref hh])
    refine zsld hx hb hX hbl hbA hS (zvp (by decide)) hx4 dL_law_733 ?_
    refine zro_i hS hA (va_runV (As := [.int x1, .int x2, .int x3, .int x4]) (rest := []) ⟨hx, hb, hml, hown, hall⟩ (c_X11_sum_out l dC dI aC hh bb x1 x2 x3 x4 H.size (zslot_0 hk)) (cwV 4 hall (zgV zw_617 zw_619 zw_620 zw_802 g_X11_sum rfl) rfl rfl rfl (by decide +kernel) ⟨Nat.le_of_ble_eq_true rfl, Nat.le_of_ble_eq_true rfl⟩) (zPre_V (As := [.int x1, .int x2, .int x3, .int x4]) hK hP hD [0, 1] rfl (by decide +kernel) (ci := 10) (q0 := 0) rfl rfl) rfl rfl hl.1 rfl (lv_room (Nat.le_of_ble_eq_true rfl)) dL_law_734 ⟨Nat.le_of_ble_eq_true rfl, Nat.le_of_ble_eq_true rfl⟩) (fun ra L140205 hw hS' => ?_)
    clear hS
    have hS := hS'
    clear hS'
    have hwa := hw
    clear hw
    refine lv_aload_n hx hb dL_law_737 rfl (lv_at hl 1 rfl) ?_
    refine lv_aload_n hx hb dL_law_738 rfl (lv_at hl 3 rfl) ?_
    refine lv_iload_n hx hb dL_law_739 rfl (lv_at hl 0 rfl) ?_
    show W p l e _ s m _ below meth c _ _ _ _ QQ (F0 m 740 ls [.int 0, .ref b, .ref mm, .int ra])
    refine lv_iconst (v := 1) hx hb dL_law_740 (by decide) ?_
    refine lv_iadd hx hb dL_law_741 ?_
    refine lv_topi (fun y140206 ey140206 => ?_)
    obtain rfl : y140206 = 1 := by rw [ey140206]; decide
    try clear ey140206
    refine zsld hx hb hX hbl hbA hS (zvp (by decide)) hx1 dL_law_742 ?_
    refine lv_aload_n hx hb dL_law_743 rfl (lv_at hl 3 rfl) ?_
    refine lv_iload_n hx hb dL_law_744 rfl (lv_at hl 0 rfl) ?_
    show W p l e _ s m _ below meth c _ _ _ _ QQ (F0 m 745 ls [.int 0, .ref b, .int x1, .ref mm, .int ra])
    refine lv_iconst (v := 2) hx hb dL_law_745 (by decide) ?_
    refine lv_iadd hx hb dL_law_746 ?_
    refine lv_topi (fun y140207 ey140207 => ?_)
    obtain rfl : y140207 = 2 := by rw [ey140207]; decide
    try clear ey140207
    refine zsld hx hb hX hbl hbA hS (zvp (by decide)) hx2 dL_law_747 ?_
    refine lv_aload_n hx hb dL_law_748 rfl (lv_at hl 3 rfl) ?_
    refine lv_iload_n hx hb dL_law_749 rfl (lv_at hl 0 rfl) ?_
    show W p l e _ s m _ below meth c _ _ _ _ QQ (F0 m 750 ls [.int 0, .ref b, .int x2, .int x1, .ref mm, .int ra])
    refine lv_iconst (v := 3) hx hb dL_law_750 (by decide) ?_
    refine lv_iadd hx hb dL_law_751 ?_
    refine lv_topi (fun y140208 ey140208 => ?_)
    obtain rfl : y140208 = 3 := by rw [ey140208]; decide
    try clear ey140208
    refine zsld hx hb hX hbl hbA hS (zvp (by decide)) hx3 dL_law_752 ?_
    refine lv_aload_n hx hb dL_law_753 rfl (lv_at hl 3 rfl) ?_
    refine lv_iload_n hx hb dL_law_754 rfl (lv_at hl 0 rfl) ?_
    show W p l e _ s m _ below meth c _ _ _ _ QQ (F0 m 755 ls [.int 0, .ref b, .int x3, .int x2, .int x1, .ref mm, .int ra])
    refine lv_iconst (v := 4) hx hb dL_law_755 (by decide) ?_
    refine lv_iadd hx hb dL_law_756 ?_
    refine lv_topi (fun y140209 ey140209 => ?_)
    obtain rfl : y140209 = 4 := by rw [ey140209]; decide
    try clear ey140209
    refine zsld hx hb hX hbl hbA hS (zvp (by decide)) hx4 dL_law_757 ?_
    refine zro_i hS hA (va_runV (As := [.int x1, .int x2, .int x3, .int x4]) (rest := [.int ra]) ⟨hx, hb, hml, hown, hall⟩ (c_X16_sum__out l dC dI aC mm d x1 x2 x3 x4 H.size hk) (cwV 4 hall (zgV zw_621 zw_623 zw_624 zw_812 g_X16_sum_ rfl) rfl rfl rfl (by decide +kernel) ⟨Nat.le_of_ble_eq_true rfl, Nat.le_of_ble_eq_true rfl⟩) (zPre_V (As := [.int x1, .int x2, .int x3, .int x4]) hK hP hD [2, 3] rfl (by decide +kernel) (ci := 15) (q0 := 0) rfl rfl) rfl rfl hl.1 rfl (lv_room (Nat.le_of_ble_eq_true rfl)) dL_law_758 ⟨Nat.le_of_ble_eq_true rfl, Nat.le_of_ble_eq_true rfl⟩) (fun rb L140210 hw hS' => ?_)
    clear hS
    have hS := hS'
    clear hS'
    have hwb := hw
    clear hw
    refine lv_icmp_eq (tgt := 1443) hx hb dL_law_761 (by decide) (fun _ => ?_) (fun hne => absurd (hwa.trans hwb.symm) hne)
    subst hQ
    subst hAe
    exact law_tail C1 (Nat.le_of_ble_eq_true rfl) (Nat.le_of_ble_eq_true rfl) hS (lv_sub hl [0, 3] rfl)

set_option maxHeartbeats 4000000 in
set_option maxRecDepth 100000 in
theorem law_quotient {p : Program} {l : Launch} {e : Env} {s : State} {m : MethodId} {below : List Frame} {meth : Method} {c : Code} {b : Nat} {xs : Nat → Int32} {H : Heap} {locs : List Loc} {ls : Array Slot} {dC : Nat → ClassId} {dI : Nat → Nat → Nat} {aC : Nat → ClassId} {hh bb mm d : Nat} (C0 : lw_At p s m meth c b 6 xs) (hK : zK (dC, dI) aC s) (hR : zReady s H dC dI aC hh bb mm d) (hS : va_S (fun q => s.heap.size ≤ q) s.heap H locs) (hl : lv_has ls 4 [(3, .int 0), (2, .ref mm), (1, .ref hh), (0, .ref b)]) : W p l e room_1 s m #[Value.ref b] below meth c H locs 8431 1660372 (lw_Z below #[Value.ref b] s) (F0 m 766 ls []) := by
  have C1 := C0
  obtain ⟨hx, hb, hr, hml, hown0, hts, hX, hbl, hlocks, hgv⟩ := C0
  obtain ⟨hPh, hFh, hPm, hFm, ez1, ez2, ez3, ez4, hz0⟩ := hR
  have hown : s.vm.findClass RL = some m.cls := hown0
  have hall : ∀ w ∈ zAll, w.before #[Value.ref b] s = true := fun w h => hts w (zAll_in w h)
  have hbA : ¬ (fun q : Nat => s.heap.size ≤ q) b := Nat.not_le.mpr hbl
  generalize hAe : (fun q : Nat => s.heap.size ≤ q) = A at hS hbA
  have hA : ∀ q : Nat, s.heap.size ≤ q → A q := fun q h => by rw [← hAe]; exact h
  generalize hQ : lw_Z below #[Value.ref b] s = QQ
  obtain ⟨x1, hx1⟩ : ∃ y, xs (1 : Int32).toNatClampNeg = y := ⟨_, rfl⟩
  obtain ⟨x2, hx2⟩ : ∃ y, xs (2 : Int32).toNatClampNeg = y := ⟨_, rfl⟩
  obtain ⟨x3, hx3⟩ : ∃ y, xs (3 : Int32).toNatClampNeg = y := ⟨_, rfl⟩
  by_cases hk : zok x1 = true
  · obtain ⟨a1, ea1⟩ : ∃ q, q = bb + (1 + 6 * x1.toNatClampNeg) := ⟨_, rfl⟩
    obtain ⟨a2, ea2⟩ : ∃ q, q = d + (7485 + 9 * x1.toNatClampNeg) := ⟨_, rfl⟩
    have hn12 := zok_12 hk
    have hsl : zslot bb x1 = some a1 := by rw [ea1]; exact zslot_1 hk
    have hSl : va_P (dC, dI) vwCl (zSlotW aC a1) H := by rw [ea1]; exact hFh _ hn12
    have hTh : va_P (dC, dI) vwCl (zThW aC a2) H := by rw [ea2]; exact hFm _ hn12
    have hP : va_P (dC, dI) vwCl [(hh, .inr (10, [.ref (bb + 0), .ref (bb + 73), .ref (bb + 75), .ref (bb + 76), .ref (bb + 80), .ref (bb + 81), .ref (bb + 88), .ref (bb + 95), .ref (bb + 100), .ref (bb + 106), .int 0, .ref (bb + 107), .int 0])), (bb + 0, .inl (aC 3, 12, .inr (.inr (.inr (.inr (zrefs (fun i => bb + (1 + 6 * i)) 12)))))), (a1, .inr (5, [.int 0, .int 0, .int 0, .int 0, .int 0, .int 0, .int 0, .ref (a1 + 1), .ref (a1 + 2), .ref (a1 + 3), .ref (a1 + 4), .ref (a1 + 5)])), (mm, .inr (15, [.ref (d + 0), .int 0, .ref (d + 1), .int 0, .ref (d + 2), .ref (d + 3), .ref (d + 68), .ref (d + 77), .ref (d + 78), .int 0, .int 0, .ref (d + 79), .int 0, .int 0, .int 0, .ref (d + 80), .int 0, .int 0, .int 0, .int 0, .ref (d + 81), .ref (d + 82), .int (-1), .ref (d + 91), .int 0, .int 0, .ref (d + 92), .int 0, .ref (d + 93), .int 0, .ref (d + 94), .int 0, .ref (d + 95), .ref (d + 96), .ref (d + 97), .ref (d + 98), .int 0, .int 0, .ref (d + 99), .null, .null, .null, .null, .null, .ref (d + 148), .ref (d + 175), .ref (d + 176), .ref (d + 177), .int 0, .ref (d + 178), .ref (d + 179), .ref (d + 180), .ref (d + 185), .ref (d + 190), .ref (d + 191), .ref (d + 192), .ref (d + 193), .ref (d + 201), .ref (d + 209), .ref (d + 210), .ref (d + 211), .ref (d + 272), .ref (d + 273), .int 0, .ref (d + 274)])), (d + 81, .inl (aC 6, 12, .inr (.inr (.inr (.inr (zrefs (fun i => d + (7485 + 9 * i)) 12)))))), (a2, .inr (13, [.int 0, .ref (a2 + 1 + 0), .ref (a2 + 1 + 1), .int 0, .int 0, .int 0, .ref (a2 + 1 + 2), .ref (a2 + 1 + 3), .ref (a2 + 1 + 4), .ref (a2 + 1 + 5), .int 0, .ref (a2 + 1 + 6), .int 0, .int 0, .ref (a2 + 1 + 7)]))] H := zP_c (hPh 0 _ rfl) (zP_c (hPh 1 _ rfl) (zP_c (hSl 0 _ rfl) (zP_c (hPm 0 _ rfl) (zP_c (hPm 15 _ rfl) (zP_c (hTh 0 _ rfl) (zP_n))))))
    have hD : va_D A [(hh, .inr (10, [.ref (bb + 0), .ref (bb + 73), .ref (bb + 75), .ref (bb + 76), .ref (bb + 80), .ref (bb + 81), .ref (bb + 88), .ref (bb + 95), .ref (bb + 100), .ref (bb + 106), .int 0, .ref (bb + 107), .int 0])), (bb + 0, .inl (aC 3, 12, .inr (.inr (.inr (.inr (zrefs (fun i => bb + (1 + 6 * i)) 12)))))), (a1, .inr (5, [.int 0, .int 0, .int 0, .int 0, .int 0, .int 0, .int 0, .ref (a1 + 1), .ref (a1 + 2), .ref (a1 + 3), .ref (a1 + 4), .ref (a1 + 5)])), (mm, .inr (15, [.ref (d + 0), .int 0, .ref (d + 1), .int 0, .ref (d + 2), .ref (d + 3), .ref (d + 68), .ref (d + 77), .ref (d + 78), .int 0, .int 0, .ref (d + 79), .int 0, .int 0, .int 0, .ref (d + 80), .int 0, .int 0, .int 0, .int 0, .ref (d + 81), .ref (d + 82), .int (-1), .ref (d + 91), .int 0, .int 0, .ref (d + 92), .int 0, .ref (d + 93), .int 0, .ref (d + 94), .int 0, .ref (d + 95), .ref (d + 96), .ref (d + 97), .ref (d + 98), .int 0, .int 0, .ref (d + 99), .null, .null, .null, .null, .null, .ref (d + 148), .ref (d + 175), .ref (d + 176), .ref (d + 177), .int 0, .ref (d + 178), .ref (d + 179), .ref (d + 180), .ref (d + 185), .ref (d + 190), .ref (d + 191), .ref (d + 192), .ref (d + 193), .ref (d + 201), .ref (d + 209), .ref (d + 210), .ref (d + 211), .ref (d + 272), .ref (d + 273), .int 0, .ref (d + 274)])), (d + 81, .inl (aC 6, 12, .inr (.inr (.inr (.inr (zrefs (fun i => d + (7485 + 9 * i)) 12)))))), (a2, .inr (13, [.int 0, .ref (a2 + 1 + 0), .ref (a2 + 1 + 1), .int 0, .int 0, .int 0, .ref (a2 + 1 + 2), .ref (a2 + 1 + 3), .ref (a2 + 1 + 4), .ref (a2 + 1 + 5), .int 0, .ref (a2 + 1 + 6), .int 0, .int 0, .ref (a2 + 1 + 7)]))] := zUp_D (lo := s.heap.size) hA (zUp_c (by omega) (zUp_c (by omega) (zUp_c (by omega) (zUp_c (by omega) (zUp_c (by omega) (zUp_c (by omega) (zUp_n)))))))
    clear hPh hFh hPm hFm hSl hTh
    refine lv_aload_n hx hb dL_law_766 rfl (lv_at hl 2 rfl) ?_
    refine lv_aload_n hx hb dL_law_767 rfl (lv_at hl 3 rfl) ?_
    refine lv_iload_n hx hb dL_law_768 rfl (lv_at hl 0 rfl) ?_
    refine lv_iconst (v := 1) hx hb dL_law_769 (by decide) ?_
    refine lv_iadd hx hb dL_law_770 ?_
    refine lv_topi (fun y140211 ey140211 => ?_)
    obtain rfl : y140211 = 1 := by rw [ey140211]; decide
    try clear ey140211
    show W p l e _ s m _ below meth c _ _ _ _ QQ (F0 m 771 ls [.int 1, .ref b, .ref hh])
    refine zsld hx hb hX hbl hbA hS (zvp (by decide)) hx1 dL_law_771 ?_
    refine lv_aload_n hx hb dL_law_772 rfl (lv_at hl 3 rfl) ?_
    refine lv_iload_n hx hb dL_law_773 rfl (lv_at hl 0 rfl) ?_
    refine lv_iconst (v := 2) hx hb dL_law_774 (by decide) ?_
    refine lv_iadd hx hb dL_law_775 ?_
    refine lv_topi (fun y140212 ey140212 => ?_)
    obtain rfl : y140212 = 2 := by rw [ey140212]; decide
    try clear ey140212
    show W p l e _ s m _ below meth c _ _ _ _ QQ (F0 m 776 ls [.int 2, .ref b, .int x1, .ref hh])
    refine zsld hx hb hX hbl hbA hS (zvp (by decide)) hx2 dL_law_776 ?_
    refine lv_aload_n hx hb dL_law_777 rfl (lv_at hl 3 rfl) ?_
    refine lv_iload_n hx hb dL_law_778 rfl (lv_at hl 0 rfl) ?_
    refine lv_iconst (v := 3) hx hb dL_law_779 (by decide) ?_
    refine lv_iadd hx hb dL_law_780 ?_
    refine lv_topi (fun y140213 ey140213 => ?_)
    obtain rfl : y140213 = 3 := by rw [ey140213]; decide
    try clear ey140213
    show W p l e _ s m _ below meth c _ _ _ _ QQ (F0 m 781 ls [.int 3, .ref b, .int x2, .int x1, .ref hh])
    refine zsld hx hb hX hbl hbA hS (zvp (by decide)) hx3 dL_law_781 ?_
    refine zro_i hS hA (va_runV (As := [.int x1, .int x2, .int x3]) (rest := []) ⟨hx, hb, hml, hown, hall⟩ (c_X11_quotient_in l dC dI aC hh bb a1 x1 x2 x3 H.size hsl) (cwV 3 hall (zgV zw_625 zw_627 zw_628 zw_802 g_X11_quotient rfl) rfl rfl rfl (by decide +kernel) ⟨Nat.le_of_ble_eq_true rfl, Nat.le_of_ble_eq_true rfl⟩) (zPre_V (As := [.int x1, .int x2, .int x3]) hK hP hD [0, 1, 2] rfl (by decide +kernel) (ci := 10) (q0 := 0) rfl rfl) rfl rfl hl.1 rfl (lv_room (Nat.le_of_ble_eq_true rfl)) dL_law_782 ⟨Nat.le_of_ble_eq_true rfl, Nat.le_of_ble_eq_true rfl⟩) (fun ra L140214 hw hS' => ?_)
    clear hS
    have hS := hS'
    clear hS'
    have hwa := hw
    clear hw
    refine lv_aload_n hx hb dL_law_785 rfl (lv_at hl 1 rfl) ?_
    refine lv_aload_n hx hb dL_law_786 rfl (lv_at hl 3 rfl) ?_
    refine lv_iload_n hx hb dL_law_787 rfl (lv_at hl 0 rfl) ?_
    show W p l e _ s m _ below meth c _ _ _ _ QQ (F0 m 788 ls [.int 0, .ref b, .ref mm, .int ra])
    refine lv_iconst (v := 1) hx hb dL_law_788 (by decide) ?_
    refine lv_iadd hx hb dL_law_789 ?_
    refine lv_topi (fun y140215 ey140215 => ?_)
    obtain rfl : y140215 = 1 := by rw [ey140215]; decide
    try clear ey140215
    refine zsld hx hb hX hbl hbA hS (zvp (by decide)) hx1 dL_law_790 ?_
    refine lv_aload_n hx hb dL_law_791 rfl (lv_at hl 3 rfl) ?_
    refine lv_iload_n hx hb dL_law_792 rfl (lv_at hl 0 rfl) ?_
    show W p l e _ s m _ below meth c _ _ _ _ QQ (F0 m 793 ls [.int 0, .ref b, .int x1, .ref mm, .int ra])
    refine lv_iconst (v := 2) hx hb dL_law_793 (by decide) ?_
    refine lv_iadd hx hb dL_law_794 ?_
    refine lv_topi (fun y140216 ey140216 => ?_)
    obtain rfl : y140216 = 2 := by rw [ey140216]; decide
    try clear ey140216
    refine zsld hx hb hX hbl hbA hS (zvp (by decide)) hx2 dL_law_795 ?_
    refine lv_aload_n hx hb dL_law_796 rfl (lv_at hl 3 rfl) ?_
    refine lv_iload_n hx hb dL_law_797 rfl (lv_at hl 0 rfl) ?_
    show W p l e _ s m _ below meth c _ _ _ _ QQ (F0 m 798 ls [.int 0, .ref b, .int x2, .int x1, .ref mm, .int ra])
    refine lv_iconst (v := 3) hx hb dL_law_798 (by decide) ?_
    refine lv_iadd hx hb dL_law_799 ?_
    refine lv_topi (fun y140217 ey140217 => ?_)
    obtain rfl : y140217 = 3 := by rw [ey140217]; decide
    try clear ey140217
    refine zsld hx hb hX hbl hbA hS (zvp (by decide)) hx3 dL_law_800 ?_
    refine zro_i hS hA (va_runV (As := [.int x1, .int x2, .int x3]) (rest := [.int ra]) ⟨hx, hb, hml, hown, hall⟩ (c_X16_quotient__in l dC dI aC mm d a2 x1 x2 x3 H.size hk ea2) (cwV 3 hall (zgV zw_629 zw_631 zw_632 zw_812 g_X16_quotient_ rfl) rfl rfl rfl (by decide +kernel) ⟨Nat.le_of_ble_eq_true rfl, Nat.le_of_ble_eq_true rfl⟩) (zPre_V (As := [.int x1, .int x2, .int x3]) hK hP hD [3, 4, 5] rfl (by decide +kernel) (ci := 15) (q0 := 0) rfl rfl) rfl rfl hl.1 rfl (lv_room (Nat.le_of_ble_eq_true rfl)) dL_law_801 ⟨Nat.le_of_ble_eq_true rfl, Nat.le_of_ble_eq_true rfl⟩) (fun rb L140218 hw hS' => ?_)
    clear hS
    have hS := hS'
    clear hS'
    have hwb := hw
    clear hw
    refine lv_icmp_eq (tgt := 1443) hx hb dL_law_804 (by decide) (fun _ => ?_) (fun hne => absurd (hwa.trans hwb.symm) hne)
    subst hQ
    subst hAe
    exact law_tail C1 (Nat.le_of_ble_eq_true rfl) (Nat.le_of_ble_eq_true rfl) hS (lv_sub hl [0, 3] rfl)
  · have hP : va_P (dC, dI) vwCl [(hh, .inr (10, [.ref (bb + 0), .ref (bb + 73), .ref (bb + 75), .ref (bb + 76), .ref (bb + 80), .ref (bb + 81), .ref (bb + 88), .ref (bb + 95), .ref (bb + 100), .ref (bb + 106), .int 0, .ref (bb + 107), .int 0])), (bb + 0, .inl (aC 3, 12, .inr (.inr (.inr (.inr (zrefs (fun i => bb + (1 + 6 * i)) 12)))))), (mm, .inr (15, [.ref (d + 0), .int 0, .ref (d + 1), .int 0, .ref (d + 2), .ref (d + 3), .ref (d + 68), .ref (d + 77), .ref (d + 78), .int 0, .int 0, .ref (d + 79), .int 0, .int 0, .int 0, .ref (d + 80), .int 0, .int 0, .int 0, .int 0, .ref (d + 81), .ref (d + 82), .int (-1), .ref (d + 91), .int 0, .int 0, .ref (d + 92), .int 0, .ref (d + 93), .int 0, .ref (d + 94), .int 0, .ref (d + 95), .ref (d + 96), .ref (d + 97), .ref (d + 98), .int 0, .int 0, .ref (d + 99), .null, .null, .null, .null, .null, .ref (d + 148), .ref (d + 175), .ref (d + 176), .ref (d + 177), .int 0, .ref (d + 178), .ref (d + 179), .ref (d + 180), .ref (d + 185), .ref (d + 190), .ref (d + 191), .ref (d + 192), .ref (d + 193), .ref (d + 201), .ref (d + 209), .ref (d + 210), .ref (d + 211), .ref (d + 272), .ref (d + 273), .int 0, .ref (d + 274)])), (d + 81, .inl (aC 6, 12, .inr (.inr (.inr (.inr (zrefs (fun i => d + (7485 + 9 * i)) 12))))))] H := zP_c (hPh 0 _ rfl) (zP_c (hPh 1 _ rfl) (zP_c (hPm 0 _ rfl) (zP_c (hPm 15 _ rfl) (zP_n))))
    have hD : va_D A [(hh, .inr (10, [.ref (bb + 0), .ref (bb + 73), .ref (bb + 75), .ref (bb + 76), .ref (bb + 80), .ref (bb + 81), .ref (bb + 88), .ref (bb + 95), .ref (bb + 100), .ref (bb + 106), .int 0, .ref (bb + 107), .int 0])), (bb + 0, .inl (aC 3, 12, .inr (.inr (.inr (.inr (zrefs (fun i => bb + (1 + 6 * i)) 12)))))), (mm, .inr (15, [.ref (d + 0), .int 0, .ref (d + 1), .int 0, .ref (d + 2), .ref (d + 3), .ref (d + 68), .ref (d + 77), .ref (d + 78), .int 0, .int 0, .ref (d + 79), .int 0, .int 0, .int 0, .ref (d + 80), .int 0, .int 0, .int 0, .int 0, .ref (d + 81), .ref (d + 82), .int (-1), .ref (d + 91), .int 0, .int 0, .ref (d + 92), .int 0, .ref (d + 93), .int 0, .ref (d + 94), .int 0, .ref (d + 95), .ref (d + 96), .ref (d + 97), .ref (d + 98), .int 0, .int 0, .ref (d + 99), .null, .null, .null, .null, .null, .ref (d + 148), .ref (d + 175), .ref (d + 176), .ref (d + 177), .int 0, .ref (d + 178), .ref (d + 179), .ref (d + 180), .ref (d + 185), .ref (d + 190), .ref (d + 191), .ref (d + 192), .ref (d + 193), .ref (d + 201), .ref (d + 209), .ref (d + 210), .ref (d + 211), .ref (d + 272), .ref (d + 273), .int 0, .ref (d + 274)])), (d + 81, .inl (aC 6, 12, .inr (.inr (.inr (.inr (zrefs (fun i => d + (7485 + 9 * i)) 12))))))] := zUp_D (lo := s.heap.size) hA (zUp_c (by omega) (zUp_c (by omega) (zUp_c (by omega) (zUp_c (by omega) (zUp_n)))))
    clear hPh hFh hPm hFm
    refine lv_aload_n hx hb dL_law_766 rfl (lv_at hl 2 rfl) ?_
    refine lv_aload_n hx hb dL_law_767 rfl (lv_at hl 3 rfl) ?_
    refine lv_iload_n hx hb dL_law_768 rfl (lv_at hl 0 rfl) ?_
    refine lv_iconst (v := 1) hx hb dL_law_769 (by decide) ?_
    refine lv_iadd hx hb dL_law_770 ?_
    refine lv_topi (fun y140219 ey140219 => ?_)
    obtain rfl : y140219 = 1 := by rw [ey140219]; decide
    try clear ey140219
    show W p l e _ s m _ below meth c _ _ _ _ QQ (F0 m 771 ls [.int 1, .ref b, .ref hh])
    refine zsld hx hb hX hbl hbA hS (zvp (by decide)) hx1 dL_law_771 ?_
    refine lv_aload_n hx hb dL_law_772 rfl (lv_at hl 3 rfl) ?_
    refine lv_iload_n hx hb dL_law_773 rfl (lv_at hl 0 rfl) ?_
    refine lv_iconst (v := 2) hx hb dL_law_774 (by decide) ?_
    refine lv_iadd hx hb dL_law_775 ?_
    refine lv_topi (fun y140220 ey140220 => ?_)
    obtain rfl : y140220 = 2 := by rw [ey140220]; decide
    try clear ey140220
    show W p l e _ s m _ below meth c _ _ _ _ QQ (F0 m 776 ls [.int 2, .ref b, .int x1, .ref hh])
    refine zsld hx hb hX hbl hbA hS (zvp (by decide)) hx2 dL_law_776 ?_
    refine lv_aload_n hx hb dL_law_777 rfl (lv_at hl 3 rfl) ?_
    refine lv_iload_n hx hb dL_law_778 rfl (lv_at hl 0 rfl) ?_
    refine lv_iconst (v := 3) hx hb dL_law_779 (by decide) ?_
    refine lv_iadd hx hb dL_law_780 ?_
    refine lv_topi (fun y140221 ey140221 => ?_)
    obtain rfl : y140221 = 3 := by rw [ey140221]; decide
    try clear ey140221
    show W p l e _ s m _ below meth c _ _ _ _ QQ (F0 m 781 ls [.int 3, .ref b, .int x2, .int x1, .ref hh])
    refine zsld hx hb hX hbl hbA hS (zvp (by decide)) hx3 dL_law_781 ?_
    refine zro_i hS hA (va_runV (As := [.int x1, .int x2, .int x3]) (rest := []) ⟨hx, hb, hml, hown, hall⟩ (c_X11_quotient_out l dC dI aC hh bb x1 x2 x3 H.size (zslot_0 hk)) (cwV 3 hall (zgV zw_625 zw_627 zw_628 zw_802 g_X11_quotient rfl) rfl rfl rfl (by decide +kernel) ⟨Nat.le_of_ble_eq_true rfl, Nat.le_of_ble_eq_true rfl⟩) (zPre_V (As := [.int x1, .int x2, .int x3]) hK hP hD [0, 1] rfl (by decide +kernel) (ci := 10) (q0 := 0) rfl rfl) rfl rfl hl.1 rfl (lv_room (Nat.le_of_ble_eq_true rfl)) dL_law_782 ⟨Nat.le_of_ble_eq_true rfl, Nat.le_of_ble_eq_true rfl⟩) (fun ra L140222 hw hS' => ?_)
    clear hS
    have hS := hS'
    clear hS'
    have hwa := hw
    clear hw
    refine lv_aload_n hx hb dL_law_785 rfl (lv_at hl 1 rfl) ?_
    refine lv_aload_n hx hb dL_law_786 rfl (lv_at hl 3 rfl) ?_
    refine lv_iload_n hx hb dL_law_787 rfl (lv_at hl 0 rfl) ?_
    show W p l e _ s m _ below meth c _ _ _ _ QQ (F0 m 788 ls [.int 0, .ref b, .ref mm, .int ra])
    refine lv_iconst (v := 1) hx hb dL_law_788 (by decide) ?_
    refine lv_iadd hx hb dL_law_789 ?_
    refine lv_topi (fun y140223 ey140223 => ?_)
    obtain rfl : y140223 = 1 := by rw [ey140223]; decide
    try clear ey140223
    refine zsld hx hb hX hbl hbA hS (zvp (by decide)) hx1 dL_law_790 ?_
    refine lv_aload_n hx hb dL_law_791 rfl (lv_at hl 3 rfl) ?_
    refine lv_iload_n hx hb dL_law_792 rfl (lv_at hl 0 rfl) ?_
    show W p l e _ s m _ below meth c _ _ _ _ QQ (F0 m 793 ls [.int 0, .ref b, .int x1, .ref mm, .int ra])
    refine lv_iconst (v := 2) hx hb dL_law_793 (by decide) ?_
    refine lv_iadd hx hb dL_law_794 ?_
    refine lv_topi (fun y140224 ey140224 => ?_)
    obtain rfl : y140224 = 2 := by rw [ey140224]; decide
    try clear ey140224
    refine zsld hx hb hX hbl hbA hS (zvp (by decide)) hx2 dL_law_795 ?_
    refine lv_aload_n hx hb dL_law_796 rfl (lv_at hl 3 rfl) ?_
    refine lv_iload_n hx hb dL_law_797 rfl (lv_at hl 0 rfl) ?_
    show W p l e _ s m _ below meth c _ _ _ _ QQ (F0 m 798 ls [.int 0, .ref b, .int x2, .int x1, .ref mm, .int ra])
    refine lv_iconst (v := 3) hx hb dL_law_798 (by decide) ?_
    refine lv_iadd hx hb dL_law_799 ?_
    refine lv_topi (fun y140225 ey140225 => ?_)
    obtain rfl : y140225 = 3 := by rw [ey140225]; decide
    try clear ey140225
    refine zsld hx hb hX hbl hbA hS (zvp (by decide)) hx3 dL_law_800 ?_
    refine zro_i hS hA (va_runV (As := [.int x1, .int x2, .int x3]) (rest := [.int ra]) ⟨hx, hb, hml, hown, hall⟩ (c_X16_quotient__out l dC dI aC mm d x1 x2 x3 H.size hk) (cwV 3 hall (zgV zw_629 zw_631 zw_632 zw_812 g_X16_quotient_ rfl) rfl rfl rfl (by decide +kernel) ⟨Nat.le_of_ble_eq_true rfl, Nat.le_of_ble_eq_true rfl⟩) (zPre_V (As := [.int x1, .int x2, .int x3]) hK hP hD [2, 3] rfl (by decide +kernel) (ci := 15) (q0 := 0) rfl rfl) rfl rfl hl.1 rfl (lv_room (Nat.le_of_ble_eq_true rfl)) dL_law_801 ⟨Nat.le_of_ble_eq_true rfl, Nat.le_of_ble_eq_true rfl⟩) (fun rb L140226 hw hS' => ?_)
    clear hS
    have hS := hS'
    clear hS'
    have hwb := hw
    clear hw
    refine lv_icmp_eq (tgt := 1443) hx hb dL_law_804 (by decide) (fun _ => ?_) (fun hne => absurd (hwa.trans hwb.symm) hne)
    subst hQ
    subst hAe
    exact law_tail C1 (Nat.le_of_ble_eq_true rfl) (Nat.le_of_ble_eq_true rfl) hS (lv_sub hl [0, 3] rfl)

set_option maxHeartbeats 4000000 in
set_option maxRecDepth 100000 in
theorem law_form {p : Program} {l : Launch} {e : Env} {s : State} {m : MethodId} {below : List Frame} {meth : Method} {c : Code} {b : Nat} {xs : Nat → Int32} {H : Heap} {locs : List Loc} {ls : Array Slot} {dC : Nat → ClassId} {dI : Nat → Nat → Nat} {aC : Nat → ClassId} {hh bb mm d : Nat} (C0 : lw_At p s m meth c b 6 xs) (hK : zK (dC, dI) aC s) (hR : zReady s H dC dI aC hh bb mm d) (hS : va_S (fun q => s.heap.size ≤ q) s.heap H locs) (hl : lv_has ls 4 [(3, .int 0), (2, .ref mm), (1, .ref hh), (0, .ref b)]) : W p l e room_1 s m #[Value.ref b] below meth c H locs 8431 1660372 (lw_Z below #[Value.ref b] s) (F0 m 809 ls []) := by
  have C1 := C0
  obtain ⟨hx, hb, hr, hml, hown0, hts, hX, hbl, hlocks, hgv⟩ := C0
  obtain ⟨hPh, hFh, hPm, hFm, ez1, ez2, ez3, ez4, hz0⟩ := hR
  have hown : s.vm.findClass RL = some m.cls := hown0
  have hall : ∀ w ∈ zAll, w.before #[Value.ref b] s = true := fun w h => hts w (zAll_in w h)
  have hbA : ¬ (fun q : Nat => s.heap.size ≤ q) b := Nat.not_le.mpr hbl
  generalize hAe : (fun q : Nat => s.heap.size ≤ q) = A at hS hbA
  have hA : ∀ q : Nat, s.heap.size ≤ q → A q := fun q h => by rw [← hAe]; exact h
  generalize hQ : lw_Z below #[Value.ref b] s = QQ
  obtain ⟨x1, hx1⟩ : ∃ y, xs (1 : Int32).toNatClampNeg = y := ⟨_, rfl⟩
  obtain ⟨x2, hx2⟩ : ∃ y, xs (2 : Int32).toNatClampNeg = y := ⟨_, rfl⟩
  obtain ⟨x3, hx3⟩ : ∃ y, xs (3 : Int32).toNatClampNeg = y := ⟨_, rfl⟩
  by_cases hk : zok x1 = true
  · obtain ⟨a1, ea1⟩ : ∃ q, q = bb + (1 + 6 * x1.toNatClampNeg) := ⟨_, rfl⟩
    obtain ⟨a2, ea2⟩ : ∃ q, q = d + (7485 + 9 * x1.toNatClampNeg) := ⟨_, rfl⟩
    have hn12 := zok_12 hk
    have hsl : zslot bb x1 = some a1 := by rw [ea1]; exact zslot_1 hk
    have hSl : va_P (dC, dI) vwCl (zSlotW aC a1) H := by rw [ea1]; exact hFh _ hn12
    have hTh : va_P (dC, dI) vwCl (zThW aC a2) H := by rw [ea2]; exact hFm _ hn12
    have hP : va_P (dC, dI) vwCl [(hh, .inr (10, [.ref (bb + 0), .ref (bb + 73), .ref (bb + 75), .ref (bb + 76), .ref (bb + 80), .ref (bb + 81), .ref (bb + 88), .ref (bb + 95), .ref (bb + 100), .ref (bb + 106), .int 0, .ref (bb + 107), .int 0])), (bb + 0, .inl (aC 3, 12, .inr (.inr (.inr (.inr (zrefs (fun i => bb + (1 + 6 * i)) 12)))))), (a1, .inr (5, [.int 0, .int 0, .int 0, .int 0, .int 0, .int 0, .int 0, .ref (a1 + 1), .ref (a1 + 2), .ref (a1 + 3), .ref (a1 + 4), .ref (a1 + 5)])), (mm, .inr (15, [.ref (d + 0), .int 0, .ref (d + 1), .int 0, .ref (d + 2), .ref (d + 3), .ref (d + 68), .ref (d + 77), .ref (d + 78), .int 0, .int 0, .ref (d + 79), .int 0, .int 0, .int 0, .ref (d + 80), .int 0, .int 0, .int 0, .int 0, .ref (d + 81), .ref (d + 82), .int (-1), .ref (d + 91), .int 0, .int 0, .ref (d + 92), .int 0, .ref (d + 93), .int 0, .ref (d + 94), .int 0, .ref (d + 95), .ref (d + 96), .ref (d + 97), .ref (d + 98), .int 0, .int 0, .ref (d + 99), .null, .null, .null, .null, .null, .ref (d + 148), .ref (d + 175), .ref (d + 176), .ref (d + 177), .int 0, .ref (d + 178), .ref (d + 179), .ref (d + 180), .ref (d + 185), .ref (d + 190), .ref (d + 191), .ref (d + 192), .ref (d + 193), .ref (d + 201), .ref (d + 209), .ref (d + 210), .ref (d + 211), .ref (d + 272), .ref (d + 273), .int 0, .ref (d + 274)])), (d + 81, .inl (aC 6, 12, .inr (.inr (.inr (.inr (zrefs (fun i => d + (7485 + 9 * i)) 12)))))), (a2, .inr (13, [.int 0, .ref (a2 + 1 + 0), .ref (a2 + 1 + 1), .int 0, .int 0, .int 0, .ref (a2 + 1 + 2), .ref (a2 + 1 + 3), .ref (a2 + 1 + 4), .ref (a2 + 1 + 5), .int 0, .ref (a2 + 1 + 6), .int 0, .int 0, .ref (a2 + 1 + 7)]))] H := zP_c (hPh 0 _ rfl) (zP_c (hPh 1 _ rfl) (zP_c (hSl 0 _ rfl) (zP_c (hPm 0 _ rfl) (zP_c (hPm 15 _ rfl) (zP_c (hTh 0 _ rfl) (zP_n))))))
    have hD : va_D A [(hh, .inr (10, [.ref (bb + 0), .ref (bb + 73), .ref (bb + 75), .ref (bb + 76), .ref (bb + 80), .ref (bb + 81), .ref (bb + 88), .ref (bb + 95), .ref (bb + 100), .ref (bb + 106), .int 0, .ref (bb + 107), .int 0])), (bb + 0, .inl (aC 3, 12, .inr (.inr (.inr (.inr (zrefs (fun i => bb + (1 + 6 * i)) 12)))))), (a1, .inr (5, [.int 0, .int 0, .int 0, .int 0, .int 0, .int 0, .int 0, .ref (a1 + 1), .ref (a1 + 2), .ref (a1 + 3), .ref (a1 + 4), .ref (a1 + 5)])), (mm, .inr (15, [.ref (d + 0), .int 0, .ref (d + 1), .int 0, .ref (d + 2), .ref (d + 3), .ref (d + 68), .ref (d + 77), .ref (d + 78), .int 0, .int 0, .ref (d + 79), .int 0, .int 0, .int 0, .ref (d + 80), .int 0, .int 0, .int 0, .int 0, .ref (d + 81), .ref (d + 82), .int (-1), .ref (d + 91), .int 0, .int 0, .ref (d + 92), .int 0, .ref (d + 93), .int 0, .ref (d + 94), .int 0, .ref (d + 95), .ref (d + 96), .ref (d + 97), .ref (d + 98), .int 0, .int 0, .ref (d + 99), .null, .null, .null, .null, .null, .ref (d + 148), .ref (d + 175), .ref (d + 176), .ref (d + 177), .int 0, .ref (d + 178), .ref (d + 179), .ref (d + 180), .ref (d + 185), .ref (d + 190), .ref (d + 191), .ref (d + 192), .ref (d + 193), .ref (d + 201), .ref (d + 209), .ref (d + 210), .ref (d + 211), .ref (d + 272), .ref (d + 273), .int 0, .ref (d + 274)])), (d + 81, .inl (aC 6, 12, .inr (.inr (.inr (.inr (zrefs (fun i => d + (7485 + 9 * i)) 12)))))), (a2, .inr (13, [.int 0, .ref (a2 + 1 + 0), .ref (a2 + 1 + 1), .int 0, .int 0, .int 0, .ref (a2 + 1 + 2), .ref (a2 + 1 + 3), .ref (a2 + 1 + 4), .ref (a2 + 1 + 5), .int 0, .ref (a2 + 1 + 6), .int 0, .int 0, .ref (a2 + 1 + 7)]))] := zUp_D (lo := s.heap.size) hA (zUp_c (by omega) (zUp_c (by omega) (zUp_c (by omega) (zUp_c (by omega) (zUp_c (by omega) (zUp_c (by omega) (zUp_n)))))))
    clear hPh hFh hPm hFm hSl hTh
    refine lv_aload_n hx hb dL_law_809 rfl (lv_at hl 2 rfl) ?_
    refine lv_aload_n hx hb dL_law_810 rfl (lv_at hl 3 rfl) ?_
    refine lv_iload_n hx hb dL_law_811 rfl (lv_at hl 0 rfl) ?_
    refine lv_iconst (v := 1) hx hb dL_law_812 (by decide) ?_
    refine lv_iadd hx hb dL_law_813 ?_
    refine lv_topi (fun y140227 ey140227 => ?_)
    obtain rfl : y140227 = 1 := by rw [ey140227]; decide
    try clear ey140227
    show W p l e _ s m _ below meth c _ _ _ _ QQ (F0 m 814 ls [.int 1, .ref b, .ref hh])
    refine zsld hx hb hX hbl hbA hS (zvp (by decide)) hx1 dL_law_814 ?_
    refine lv_aload_n hx hb dL_law_815 rfl (lv_at hl 3 rfl) ?_
    refine lv_iload_n hx hb dL_law_816 rfl (lv_at hl 0 rfl) ?_
    refine lv_iconst (v := 2) hx hb dL_law_817 (by decide) ?_
    refine lv_iadd hx hb dL_law_818 ?_
    refine lv_topi (fun y140228 ey140228 => ?_)
    obtain rfl : y140228 = 2 := by rw [ey140228]; decide
    try clear ey140228
    show W p l e _ s m _ below meth c _ _ _ _ QQ (F0 m 819 ls [.int 2, .ref b, .int x1, .ref hh])
    refine zsld hx hb hX hbl hbA hS (zvp (by decide)) hx2 dL_law_819 ?_
    refine lv_aload_n hx hb dL_law_820 rfl (lv_at hl 3 rfl) ?_
    refine lv_iload_n hx hb dL_law_821 rfl (lv_at hl 0 rfl) ?_
    refine lv_iconst (v := 3) hx hb dL_law_822 (by decide) ?_
    refine lv_iadd hx hb dL_law_823 ?_
    refine lv_topi (fun y140229 ey140229 => ?_)
    obtain rfl : y140229 = 3 := by rw [ey140229]; decide
    try clear ey140229
    show W p l e _ s m _ below meth c _ _ _ _ QQ (F0 m 824 ls [.int 3, .ref b, .int x2, .int x1, .ref hh])
    refine zsld hx hb hX hbl hbA hS (zvp (by decide)) hx3 dL_law_824 ?_
    refine zro_i hS hA (va_runV (As := [.int x1, .int x2, .int x3]) (rest := []) ⟨hx, hb, hml, hown, hall⟩ (c_X11_form_in l dC dI aC hh bb a1 x1 x2 x3 H.size hsl) (cwV 3 hall (zgV zw_633 zw_635 zw_636 zw_802 g_X11_form rfl) rfl rfl rfl (by decide +kernel) ⟨Nat.le_of_ble_eq_true rfl, Nat.le_of_ble_eq_true rfl⟩) (zPre_V (As := [.int x1, .int x2, .int x3]) hK hP hD [0, 1, 2] rfl (by decide +kernel) (ci := 10) (q0 := 0) rfl rfl) rfl rfl hl.1 rfl (lv_room (Nat.le_of_ble_eq_true rfl)) dL_law_825 ⟨Nat.le_of_ble_eq_true rfl, Nat.le_of_ble_eq_true rfl⟩) (fun ra L140230 hw hS' => ?_)
    clear hS
    have hS := hS'
    clear hS'
    have hwa := hw
    clear hw
    refine lv_aload_n hx hb dL_law_828 rfl (lv_at hl 1 rfl) ?_
    refine lv_aload_n hx hb dL_law_829 rfl (lv_at hl 3 rfl) ?_
    refine lv_iload_n hx hb dL_law_830 rfl (lv_at hl 0 rfl) ?_
    show W p l e _ s m _ below meth c _ _ _ _ QQ (F0 m 831 ls [.int 0, .ref b, .ref mm, .int ra])
    refine lv_iconst (v := 1) hx hb dL_law_831 (by decide) ?_
    refine lv_iadd hx hb dL_law_832 ?_
    refine lv_topi (fun y140231 ey140231 => ?_)
    obtain rfl : y140231 = 1 := by rw [ey140231]; decide
    try clear ey140231
    refine zsld hx hb hX hbl hbA hS (zvp (by decide)) hx1 dL_law_833 ?_
    refine lv_aload_n hx hb dL_law_834 rfl (lv_at hl 3 rfl) ?_
    refine lv_iload_n hx hb dL_law_835 rfl (lv_at hl 0 rfl) ?_
    show W p l e _ s m _ below meth c _ _ _ _ QQ (F0 m 836 ls [.int 0, .ref b, .int x1, .ref mm, .int ra])
    refine lv_iconst (v := 2) hx hb dL_law_836 (by decide) ?_
    refine lv_iadd hx hb dL_law_837 ?_
    refine lv_topi (fun y140232 ey140232 => ?_)
    obtain rfl : y140232 = 2 := by rw [ey140232]; decide
    try clear ey140232
    refine zsld hx hb hX hbl hbA hS (zvp (by decide)) hx2 dL_law_838 ?_
    refine lv_aload_n hx hb dL_law_839 rfl (lv_at hl 3 rfl) ?_
    refine lv_iload_n hx hb dL_law_840 rfl (lv_at hl 0 rfl) ?_
    show W p l e _ s m _ below meth c _ _ _ _ QQ (F0 m 841 ls [.int 0, .ref b, .int x2, .int x1, .ref mm, .int ra])
    refine lv_iconst (v := 3) hx hb dL_law_841 (by decide) ?_
    refine lv_iadd hx hb dL_law_842 ?_
    refine lv_topi (fun y140233 ey140233 => ?_)
    obtain rfl : y140233 = 3 := by rw [ey140233]; decide
    try clear ey140233
    refine zsld hx hb hX hbl hbA hS (zvp (by decide)) hx3 dL_law_843 ?_
    refine zro_i hS hA (va_runV (As := [.int x1, .int x2, .int x3]) (rest := [.int ra]) ⟨hx, hb, hml, hown, hall⟩ (c_X16_form__in l dC dI aC mm d a2 x1 x2 x3 H.size hk ea2) (cwV 3 hall (zgV zw_637 zw_639 zw_640 zw_812 g_X16_form_ rfl) rfl rfl rfl (by decide +kernel) ⟨Nat.le_of_ble_eq_true rfl, Nat.le_of_ble_eq_true rfl⟩) (zPre_V (As := [.int x1, .int x2, .int x3]) hK hP hD [3, 4, 5] rfl (by decide +kernel) (ci := 15) (q0 := 0) rfl rfl) rfl rfl hl.1 rfl (lv_room (Nat.le_of_ble_eq_true rfl)) dL_law_844 ⟨Nat.le_of_ble_eq_true rfl, Nat.le_of_ble_eq_true rfl⟩) (fun rb L140234 hw hS' => ?_)
    clear hS
    have hS := hS'
    clear hS'
    have hwb := hw
    clear hw
    refine lv_icmp_eq (tgt := 1443) hx hb dL_law_847 (by decide) (fun _ => ?_) (fun hne => absurd (hwa.trans hwb.symm) hne)
    subst hQ
    subst hAe
    exact law_tail C1 (Nat.le_of_ble_eq_true rfl) (Nat.le_of_ble_eq_true rfl) hS (lv_sub hl [0, 3] rfl)
  · have hP : va_P (dC, dI) vwCl [(hh, .inr (10, [.ref (bb + 0), .ref (bb + 73), .ref (bb + 75), .ref (bb + 76), .ref (bb + 80), .ref (bb + 81), .ref (bb + 88), .ref (bb + 95), .ref (bb + 100), .ref (bb + 106), .int 0, .ref (bb + 107), .int 0])), (bb + 0, .inl (aC 3, 12, .inr (.inr (.inr (.inr (zrefs (fun i => bb + (1 + 6 * i)) 12)))))), (mm, .inr (15, [.ref (d + 0), .int 0, .ref (d + 1), .int 0, .ref (d + 2), .ref (d + 3), .ref (d + 68), .ref (d + 77), .ref (d + 78), .int 0, .int 0, .ref (d + 79), .int 0, .int 0, .int 0, .ref (d + 80), .int 0, .int 0, .int 0, .int 0, .ref (d + 81), .ref (d + 82), .int (-1), .ref (d + 91), .int 0, .int 0, .ref (d + 92), .int 0, .ref (d + 93), .int 0, .ref (d + 94), .int 0, .ref (d + 95), .ref (d + 96), .ref (d + 97), .ref (d + 98), .int 0, .int 0, .ref (d + 99), .null, .null, .null, .null, .null, .ref (d + 148), .ref (d + 175), .ref (d + 176), .ref (d + 177), .int 0, .ref (d + 178), .ref (d + 179), .ref (d + 180), .ref (d + 185), .ref (d + 190), .ref (d + 191), .ref (d + 192), .ref (d + 193), .ref (d + 201), .ref (d + 209), .ref (d + 210), .ref (d + 211), .ref (d + 272), .ref (d + 273), .int 0, .ref (d + 274)])), (d + 81, .inl (aC 6, 12, .inr (.inr (.inr (.inr (zrefs (fun i => d + (7485 + 9 * i)) 12))))))] H := zP_c (hPh 0 _ rfl) (zP_c (hPh 1 _ rfl) (zP_c (hPm 0 _ rfl) (zP_c (hPm 15 _ rfl) (zP_n))))
    have hD : va_D A [(hh, .inr (10, [.ref (bb + 0), .ref (bb + 73), .ref (bb + 75), .ref (bb + 76), .ref (bb + 80), .ref (bb + 81), .ref (bb + 88), .ref (bb + 95), .ref (bb + 100), .ref (bb + 106), .int 0, .ref (bb + 107), .int 0])), (bb + 0, .inl (aC 3, 12, .inr (.inr (.inr (.inr (zrefs (fun i => bb + (1 + 6 * i)) 12)))))), (mm, .inr (15, [.ref (d + 0), .int 0, .ref (d + 1), .int 0, .ref (d + 2), .ref (d + 3), .ref (d + 68), .ref (d + 77), .ref (d + 78), .int 0, .int 0, .ref (d + 79), .int 0, .int 0, .int 0, .ref (d + 80), .int 0, .int 0, .int 0, .int 0, .ref (d + 81), .ref (d + 82), .int (-1), .ref (d + 91), .int 0, .int 0, .ref (d + 92), .int 0, .ref (d + 93), .int 0, .ref (d + 94), .int 0, .ref (d + 95), .ref (d + 96), .ref (d + 97), .ref (d + 98), .int 0, .int 0, .ref (d + 99), .null, .null, .null, .null, .null, .ref (d + 148), .ref (d + 175), .ref (d + 176), .ref (d + 177), .int 0, .ref (d + 178), .ref (d + 179), .ref (d + 180), .ref (d + 185), .ref (d + 190), .ref (d + 191), .ref (d + 192), .ref (d + 193), .ref (d + 201), .ref (d + 209), .ref (d + 210), .ref (d + 211), .ref (d + 272), .ref (d + 273), .int 0, .ref (d + 274)])), (d + 81, .inl (aC 6, 12, .inr (.inr (.inr (.inr (zrefs (fun i => d + (7485 + 9 * i)) 12))))))] := zUp_D (lo := s.heap.size) hA (zUp_c (by omega) (zUp_c (by omega) (zUp_c (by omega) (zUp_c (by omega) (zUp_n)))))
    clear hPh hFh hPm hFm
    refine lv_aload_n hx hb dL_law_809 rfl (lv_at hl 2 rfl) ?_
    refine lv_aload_n hx hb dL_law_810 rfl (lv_at hl 3 rfl) ?_
    refine lv_iload_n hx hb dL_law_811 rfl (lv_at hl 0 rfl) ?_
    refine lv_iconst (v := 1) hx hb dL_law_812 (by decide) ?_
    refine lv_iadd hx hb dL_law_813 ?_
    refine lv_topi (fun y140235 ey140235 => ?_)
    obtain rfl : y140235 = 1 := by rw [ey140235]; decide
    try clear ey140235
    show W p l e _ s m _ below meth c _ _ _ _ QQ (F0 m 814 ls [.int 1, .ref b, .ref hh])
    refine zsld hx hb hX hbl hbA hS (zvp (by decide)) hx1 dL_law_814 ?_
    refine lv_aload_n hx hb dL_law_815 rfl (lv_at hl 3 rfl) ?_
    refine lv_iload_n hx hb dL_law_816 rfl (lv_at hl 0 rfl) ?_
    refine lv_iconst (v := 2) hx hb dL_law_817 (by decide) ?_
    refine lv_iadd hx hb dL_law_818 ?_
    refine lv_topi (fun y140236 ey140236 => ?_)
    obtain rfl : y140236 = 2 := by rw [ey140236]; decide
    try clear ey140236
    show W p l e _ s m _ below meth c _ _ _ _ QQ (F0 m 819 ls [.int 2, .ref b, .int x1, .ref hh])
    refine zsld hx hb hX hbl hbA hS (zvp (by decide)) hx2 dL_law_819 ?_
    refine lv_aload_n hx hb dL_law_820 rfl (lv_at hl 3 rfl) ?_
    refine lv_iload_n hx hb dL_law_821 rfl (lv_at hl 0 rfl) ?_
    refine lv_iconst (v := 3) hx hb dL_law_822 (by decide) ?_
    refine lv_iadd hx hb dL_law_823 ?_
    refine lv_topi (fun y140237 ey140237 => ?_)
    obtain rfl : y140237 = 3 := by rw [ey140237]; decide
    try clear ey140237
    show W p l e _ s m _ below meth c _ _ _ _ QQ (F0 m 824 ls [.int 3, .ref b, .int x2, .int x1, .ref hh])
    refine zsld hx hb hX hbl hbA hS (zvp (by decide)) hx3 dL_law_824 ?_
    refine zro_i hS hA (va_runV (As := [.int x1, .int x2, .int x3]) (rest := []) ⟨hx, hb, hml, hown, hall⟩ (c_X11_form_out l dC dI aC hh bb x1 x2 x3 H.size (zslot_0 hk)) (cwV 3 hall (zgV zw_633 zw_635 zw_636 zw_802 g_X11_form rfl) rfl rfl rfl (by decide +kernel) ⟨Nat.le_of_ble_eq_true rfl, Nat.le_of_ble_eq_true rfl⟩) (zPre_V (As := [.int x1, .int x2, .int x3]) hK hP hD [0, 1] rfl (by decide +kernel) (ci := 10) (q0 := 0) rfl rfl) rfl rfl hl.1 rfl (lv_room (Nat.le_of_ble_eq_true rfl)) dL_law_825 ⟨Nat.le_of_ble_eq_true rfl, Nat.le_of_ble_eq_true rfl⟩) (fun ra L140238 hw hS' => ?_)
    clear hS
    have hS := hS'
    clear hS'
    have hwa := hw
    clear hw
    refine lv_aload_n hx hb dL_law_828 rfl (lv_at hl 1 rfl) ?_
    refine lv_aload_n hx hb dL_law_829 rfl (lv_at hl 3 rfl) ?_
    refine lv_iload_n hx hb dL_law_830 rfl (lv_at hl 0 rfl) ?_
    show W p l e _ s m _ below meth c _ _ _ _ QQ (F0 m 831 ls [.int 0, .ref b, .ref mm, .int ra])
    refine lv_iconst (v := 1) hx hb dL_law_831 (by decide) ?_
    refine lv_iadd hx hb dL_law_832 ?_
    refine lv_topi (fun y140239 ey140239 => ?_)
    obtain rfl : y140239 = 1 := by rw [ey140239]; decide
    try clear ey140239
    refine zsld hx hb hX hbl hbA hS (zvp (by decide)) hx1 dL_law_833 ?_
    refine lv_aload_n hx hb dL_law_834 rfl (lv_at hl 3 rfl) ?_
    refine lv_iload_n hx hb dL_law_835 rfl (lv_at hl 0 rfl) ?_
    show W p l e _ s m _ below meth c _ _ _ _ QQ (F0 m 836 ls [.int 0, .ref b, .int x1, .ref mm, .int ra])
    refine lv_iconst (v := 2) hx hb dL_law_836 (by decide) ?_
    refine lv_iadd hx hb dL_law_837 ?_
    refine lv_topi (fun y140240 ey140240 => ?_)
    obtain rfl : y140240 = 2 := by rw [ey140240]; decide
    try clear ey140240
    refine zsld hx hb hX hbl hbA hS (zvp (by decide)) hx2 dL_law_838 ?_
    refine lv_aload_n hx hb dL_law_839 rfl (lv_at hl 3 rfl) ?_
    refine lv_iload_n hx hb dL_law_840 rfl (lv_at hl 0 rfl) ?_
    show W p l e _ s m _ below meth c _ _ _ _ QQ (F0 m 841 ls [.int 0, .ref b, .int x2, .int x1, .ref mm, .int ra])
    refine lv_iconst (v := 3) hx hb dL_law_841 (by decide) ?_
    refine lv_iadd hx hb dL_law_842 ?_
    refine lv_topi (fun y140241 ey140241 => ?_)
    obtain rfl : y140241 = 3 := by rw [ey140241]; decide
    try clear ey140241
    refine zsld hx hb hX hbl hbA hS (zvp (by decide)) hx3 dL_law_843 ?_
    refine zro_i hS hA (va_runV (As := [.int x1, .int x2, .int x3]) (rest := [.int ra]) ⟨hx, hb, hml, hown, hall⟩ (c_X16_form__out l dC dI aC mm d x1 x2 x3 H.size hk) (cwV 3 hall (zgV zw_637 zw_639 zw_640 zw_812 g_X16_form_ rfl) rfl rfl rfl (by decide +kernel) ⟨Nat.le_of_ble_eq_true rfl, Nat.le_of_ble_eq_true rfl⟩) (zPre_V (As := [.int x1, .int x2, .int x3]) hK hP hD [2, 3] rfl (by decide +kernel) (ci := 15) (q0 := 0) rfl rfl) rfl rfl hl.1 rfl (lv_room (Nat.le_of_ble_eq_true rfl)) dL_law_844 ⟨Nat.le_of_ble_eq_true rfl, Nat.le_of_ble_eq_true rfl⟩) (fun rb L140242 hw hS' => ?_)
    clear hS
    have hS := hS'
    clear hS'
    have hwb := hw
    clear hw
    refine lv_icmp_eq (tgt := 1443) hx hb dL_law_847 (by decide) (fun _ => ?_) (fun hne => absurd (hwa.trans hwb.symm) hne)
    subst hQ
    subst hAe
    exact law_tail C1 (Nat.le_of_ble_eq_true rfl) (Nat.le_of_ble_eq_true rfl) hS (lv_sub hl [0, 3] rfl)

set_option maxHeartbeats 4000000 in
set_option maxRecDepth 100000 in
theorem law_close {p : Program} {l : Launch} {e : Env} {s : State} {m : MethodId} {below : List Frame} {meth : Method} {c : Code} {b : Nat} {xs : Nat → Int32} {H : Heap} {locs : List Loc} {ls : Array Slot} {dC : Nat → ClassId} {dI : Nat → Nat → Nat} {aC : Nat → ClassId} {hh bb mm d : Nat} (C0 : lw_At p s m meth c b 6 xs) (hK : zK (dC, dI) aC s) (hR : zReady s H dC dI aC hh bb mm d) (hS : va_S (fun q => s.heap.size ≤ q) s.heap H locs) (hl : lv_has ls 4 [(3, .int 0), (2, .ref mm), (1, .ref hh), (0, .ref b)]) : W p l e room_1 s m #[Value.ref b] below meth c H locs 8431 1660372 (lw_Z below #[Value.ref b] s) (F0 m 852 ls []) := by
  have C1 := C0
  obtain ⟨hx, hb, hr, hml, hown0, hts, hX, hbl, hlocks, hgv⟩ := C0
  obtain ⟨hPh, hFh, hPm, hFm, ez1, ez2, ez3, ez4, hz0⟩ := hR
  have hown : s.vm.findClass RL = some m.cls := hown0
  have hall : ∀ w ∈ zAll, w.before #[Value.ref b] s = true := fun w h => hts w (zAll_in w h)
  have hbA : ¬ (fun q : Nat => s.heap.size ≤ q) b := Nat.not_le.mpr hbl
  generalize hAe : (fun q : Nat => s.heap.size ≤ q) = A at hS hbA
  have hA : ∀ q : Nat, s.heap.size ≤ q → A q := fun q h => by rw [← hAe]; exact h
  generalize hQ : lw_Z below #[Value.ref b] s = QQ
  obtain ⟨x1, hx1⟩ : ∃ y, xs (1 : Int32).toNatClampNeg = y := ⟨_, rfl⟩
  obtain ⟨x2, hx2⟩ : ∃ y, xs (2 : Int32).toNatClampNeg = y := ⟨_, rfl⟩
  by_cases hk : zok x1 = true
  · obtain ⟨a1, ea1⟩ : ∃ q, q = bb + (1 + 6 * x1.toNatClampNeg) := ⟨_, rfl⟩
    obtain ⟨a2, ea2⟩ : ∃ q, q = d + (7485 + 9 * x1.toNatClampNeg) := ⟨_, rfl⟩
    have hn12 := zok_12 hk
    have hsl : zslot bb x1 = some a1 := by rw [ea1]; exact zslot_1 hk
    have hSl : va_P (dC, dI) vwCl (zSlotW aC a1) H := by rw [ea1]; exact hFh _ hn12
    have hTh : va_P (dC, dI) vwCl (zThW aC a2) H := by rw [ea2]; exact hFm _ hn12
    have hP : va_P (dC, dI) vwCl [(hh, .inr (10, [.ref (bb + 0), .ref (bb + 73), .ref (bb + 75), .ref (bb + 76), .ref (bb + 80), .ref (bb + 81), .ref (bb + 88), .ref (bb + 95), .ref (bb + 100), .ref (bb + 106), .int 0, .ref (bb + 107), .int 0])), (bb + 0, .inl (aC 3, 12, .inr (.inr (.inr (.inr (zrefs (fun i => bb + (1 + 6 * i)) 12)))))), (a1, .inr (5, [.int 0, .int 0, .int 0, .int 0, .int 0, .int 0, .int 0, .ref (a1 + 1), .ref (a1 + 2), .ref (a1 + 3), .ref (a1 + 4), .ref (a1 + 5)])), (mm, .inr (15, [.ref (d + 0), .int 0, .ref (d + 1), .int 0, .ref (d + 2), .ref (d + 3), .ref (d + 68), .ref (d + 77), .ref (d + 78), .int 0, .int 0, .ref (d + 79), .int 0, .int 0, .int 0, .ref (d + 80), .int 0, .int 0, .int 0, .int 0, .ref (d + 81), .ref (d + 82), .int (-1), .ref (d + 91), .int 0, .int 0, .ref (d + 92), .int 0, .ref (d + 93), .int 0, .ref (d + 94), .int 0, .ref (d + 95), .ref (d + 96), .ref (d + 97), .ref (d + 98), .int 0, .int 0, .ref (d + 99), .null, .null, .null, .null, .null, .ref (d + 148), .ref (d + 175), .ref (d + 176), .ref (d + 177), .int 0, .ref (d + 178), .ref (d + 179), .ref (d + 180), .ref (d + 185), .ref (d + 190), .ref (d + 191), .ref (d + 192), .ref (d + 193), .ref (d + 201), .ref (d + 209), .ref (d + 210), .ref (d + 211), .ref (d + 272), .ref (d + 273), .int 0, .ref (d + 274)])), (d + 81, .inl (aC 6, 12, .inr (.inr (.inr (.inr (zrefs (fun i => d + (7485 + 9 * i)) 12)))))), (a2, .inr (13, [.int 0, .ref (a2 + 1 + 0), .ref (a2 + 1 + 1), .int 0, .int 0, .int 0, .ref (a2 + 1 + 2), .ref (a2 + 1 + 3), .ref (a2 + 1 + 4), .ref (a2 + 1 + 5), .int 0, .ref (a2 + 1 + 6), .int 0, .int 0, .ref (a2 + 1 + 7)]))] H := zP_c (hPh 0 _ rfl) (zP_c (hPh 1 _ rfl) (zP_c (hSl 0 _ rfl) (zP_c (hPm 0 _ rfl) (zP_c (hPm 15 _ rfl) (zP_c (hTh 0 _ rfl) (zP_n))))))
    have hD : va_D A [(hh, .inr (10, [.ref (bb + 0), .ref (bb + 73), .ref (bb + 75), .ref (bb + 76), .ref (bb + 80), .ref (bb + 81), .ref (bb + 88), .ref (bb + 95), .ref (bb + 100), .ref (bb + 106), .int 0, .ref (bb + 107), .int 0])), (bb + 0, .inl (aC 3, 12, .inr (.inr (.inr (.inr (zrefs (fun i => bb + (1 + 6 * i)) 12)))))), (a1, .inr (5, [.int 0, .int 0, .int 0, .int 0, .int 0, .int 0, .int 0, .ref (a1 + 1), .ref (a1 + 2), .ref (a1 + 3), .ref (a1 + 4), .ref (a1 + 5)])), (mm, .inr (15, [.ref (d + 0), .int 0, .ref (d + 1), .int 0, .ref (d + 2), .ref (d + 3), .ref (d + 68), .ref (d + 77), .ref (d + 78), .int 0, .int 0, .ref (d + 79), .int 0, .int 0, .int 0, .ref (d + 80), .int 0, .int 0, .int 0, .int 0, .ref (d + 81), .ref (d + 82), .int (-1), .ref (d + 91), .int 0, .int 0, .ref (d + 92), .int 0, .ref (d + 93), .int 0, .ref (d + 94), .int 0, .ref (d + 95), .ref (d + 96), .ref (d + 97), .ref (d + 98), .int 0, .int 0, .ref (d + 99), .null, .null, .null, .null, .null, .ref (d + 148), .ref (d + 175), .ref (d + 176), .ref (d + 177), .int 0, .ref (d + 178), .ref (d + 179), .ref (d + 180), .ref (d + 185), .ref (d + 190), .ref (d + 191), .ref (d + 192), .ref (d + 193), .ref (d + 201), .ref (d + 209), .ref (d + 210), .ref (d + 211), .ref (d + 272), .ref (d + 273), .int 0, .ref (d + 274)])), (d + 81, .inl (aC 6, 12, .inr (.inr (.inr (.inr (zrefs (fun i => d + (7485 + 9 * i)) 12)))))), (a2, .inr (13, [.int 0, .ref (a2 + 1 + 0), .ref (a2 + 1 + 1), .int 0, .int 0, .int 0, .ref (a2 + 1 + 2), .ref (a2 + 1 + 3), .ref (a2 + 1 + 4), .ref (a2 + 1 + 5), .int 0, .ref (a2 + 1 + 6), .int 0, .int 0, .ref (a2 + 1 + 7)]))] := zUp_D (lo := s.heap.size) hA (zUp_c (by omega) (zUp_c (by omega) (zUp_c (by omega) (zUp_c (by omega) (zUp_c (by omega) (zUp_c (by omega) (zUp_n)))))))
    clear hPh hFh hPm hFm hSl hTh
    refine lv_aload_n hx hb dL_law_852 rfl (lv_at hl 2 rfl) ?_
    refine lv_aload_n hx hb dL_law_853 rfl (lv_at hl 3 rfl) ?_
    refine lv_iload_n hx hb dL_law_854 rfl (lv_at hl 0 rfl) ?_
    refine lv_iconst (v := 1) hx hb dL_law_855 (by decide) ?_
    refine lv_iadd hx hb dL_law_856 ?_
    refine lv_topi (fun y140243 ey140243 => ?_)
    obtain rfl : y140243 = 1 := by rw [ey140243]; decide
    try clear ey140243
    show W p l e _ s m _ below meth c _ _ _ _ QQ (F0 m 857 ls [.int 1, .ref b, .ref hh])
    refine zsld hx hb hX hbl hbA hS (zvp (by decide)) hx1 dL_law_857 ?_
    refine lv_aload_n hx hb dL_law_858 rfl (lv_at hl 3 rfl) ?_
    refine lv_iload_n hx hb dL_law_859 rfl (lv_at hl 0 rfl) ?_
    refine lv_iconst (v := 2) hx hb dL_law_860 (by decide) ?_
    refine lv_iadd hx hb dL_law_861 ?_
    refine lv_topi (fun y140244 ey140244 => ?_)
    obtain rfl : y140244 = 2 := by rw [ey140244]; decide
    try clear ey140244
    show W p l e _ s m _ below meth c _ _ _ _ QQ (F0 m 862 ls [.int 2, .ref b, .int x1, .ref hh])
    refine zsld hx hb hX hbl hbA hS (zvp (by decide)) hx2 dL_law_862 ?_
    refine zro_i hS hA (va_runV (As := [.int x1, .int x2]) (rest := []) ⟨hx, hb, hml, hown, hall⟩ (c_X11_close_in l dC dI aC hh bb a1 x1 x2 H.size hsl) (cwV 2 hall (zgV zw_641 zw_643 zw_644 zw_802 g_X11_close rfl) rfl rfl rfl (by decide +kernel) ⟨Nat.le_of_ble_eq_true rfl, Nat.le_of_ble_eq_true rfl⟩) (zPre_V (As := [.int x1, .int x2]) hK hP hD [0, 1, 2] rfl (by decide +kernel) (ci := 10) (q0 := 0) rfl rfl) rfl rfl hl.1 rfl (lv_room (Nat.le_of_ble_eq_true rfl)) dL_law_863 ⟨Nat.le_of_ble_eq_true rfl, Nat.le_of_ble_eq_true rfl⟩) (fun ra L140245 hw hS' => ?_)
    clear hS
    have hS := hS'
    clear hS'
    have hwa := hw
    clear hw
    refine lv_aload_n hx hb dL_law_866 rfl (lv_at hl 1 rfl) ?_
    refine lv_aload_n hx hb dL_law_867 rfl (lv_at hl 3 rfl) ?_
    refine lv_iload_n hx hb dL_law_868 rfl (lv_at hl 0 rfl) ?_
    show W p l e _ s m _ below meth c _ _ _ _ QQ (F0 m 869 ls [.int 0, .ref b, .ref mm, .int ra])
    refine lv_iconst (v := 1) hx hb dL_law_869 (by decide) ?_
    refine lv_iadd hx hb dL_law_870 ?_
    refine lv_topi (fun y140246 ey140246 => ?_)
    obtain rfl : y140246 = 1 := by rw [ey140246]; decide
    try clear ey140246
    refine zsld hx hb hX hbl hbA hS (zvp (by decide)) hx1 dL_law_871 ?_
    refine lv_aload_n hx hb dL_law_872 rfl (lv_at hl 3 rfl) ?_
    refine lv_iload_n hx hb dL_law_873 rfl (lv_at hl 0 rfl) ?_
    show W p l e _ s m _ below meth c _ _ _ _ QQ (F0 m 874 ls [.int 0, .ref b, .int x1, .ref mm, .int ra])
    refine lv_iconst (v := 2) hx hb dL_law_874 (by decide) ?_
    refine lv_iadd hx hb dL_law_875 ?_
    refine lv_topi (fun y140247 ey140247 => ?_)
    obtain rfl : y140247 = 2 := by rw [ey140247]; decide
    try clear ey140247
    refine zsld hx hb hX hbl hbA hS (zvp (by decide)) hx2 dL_law_876 ?_
    refine zro_i hS hA (va_runV (As := [.int x1, .int x2]) (rest := [.int ra]) ⟨hx, hb, hml, hown, hall⟩ (c_X16_close_in l dC dI aC mm d a2 x1 x2 H.size hk ea2) (cwV 2 hall (zgV zw_645 zw_647 zw_648 zw_812 g_X16_close rfl) rfl rfl rfl (by decide +kernel) ⟨Nat.le_of_ble_eq_true rfl, Nat.le_of_ble_eq_true rfl⟩) (zPre_V (As := [.int x1, .int x2]) hK hP hD [3, 4, 5] rfl (by decide +kernel) (ci := 15) (q0 := 0) rfl rfl) rfl rfl hl.1 rfl (lv_room (Nat.le_of_ble_eq_true rfl)) dL_law_877 ⟨Nat.le_of_ble_eq_true rfl, Nat.le_of_ble_eq_true rfl⟩) (fun rb L140248 hw hS' => ?_)
    clear hS
    have hS := hS'
    clear hS'
    have hwb := hw
    clear hw
    refine lv_icmp_eq (tgt := 1443) hx hb dL_law_880 (by decide) (fun _ => ?_) (fun hne => absurd (hwa.trans hwb.symm) hne)
    subst hQ
    subst hAe
    exact law_tail C1 (Nat.le_of_ble_eq_true rfl) (Nat.le_of_ble_eq_true rfl) hS (lv_sub hl [0, 3] rfl)
  · have hP : va_P (dC, dI) vwCl [(hh, .inr (10, [.ref (bb + 0), .ref (bb + 73), .ref (bb + 75), .ref (bb + 76), .ref (bb + 80), .ref (bb + 81), .ref (bb + 88), .ref (bb + 95), .ref (bb + 100), .ref (bb + 106), .int 0, .ref (bb + 107), .int 0])), (bb + 0, .inl (aC 3, 12, .inr (.inr (.inr (.inr (zrefs (fun i => bb + (1 + 6 * i)) 12)))))), (mm, .inr (15, [.ref (d + 0), .int 0, .ref (d + 1), .int 0, .ref (d + 2), .ref (d + 3), .ref (d + 68), .ref (d + 77), .ref (d + 78), .int 0, .int 0, .ref (d + 79), .int 0, .int 0, .int 0, .ref (d + 80), .int 0, .int 0, .int 0, .int 0, .ref (d + 81), .ref (d + 82), .int (-1), .ref (d + 91), .int 0, .int 0, .ref (d + 92), .int 0, .ref (d + 93), .int 0, .ref (d + 94), .int 0, .ref (d + 95), .ref (d + 96), .ref (d + 97), .ref (d + 98), .int 0, .int 0, .ref (d + 99), .null, .null, .null, .null, .null, .ref (d + 148), .ref (d + 175), .ref (d + 176), .ref (d + 177), .int 0, .ref (d + 178), .ref (d + 179), .ref (d + 180), .ref (d + 185), .ref (d + 190), .ref (d + 191), .ref (d + 192), .ref (d + 193), .ref (d + 201), .ref (d + 209), .ref (d + 210), .ref (d + 211), .ref (d + 272), .ref (d + 273), .int 0, .ref (d + 274)])), (d + 81, .inl (aC 6, 12, .inr (.inr (.inr (.inr (zrefs (fun i => d + (7485 + 9 * i)) 12))))))] H := zP_c (hPh 0 _ rfl) (zP_c (hPh 1 _ rfl) (zP_c (hPm 0 _ rfl) (zP_c (hPm 15 _ rfl) (zP_n))))
    have hD : va_D A [(hh, .inr (10, [.ref (bb + 0), .ref (bb + 73), .ref (bb + 75), .ref (bb + 76), .ref (bb + 80), .ref (bb + 81), .ref (bb + 88), .ref (bb + 95), .ref (bb + 100), .ref (bb + 106), .int 0, .ref (bb + 107), .int 0])), (bb + 0, .inl (aC 3, 12, .inr (.inr (.inr (.inr (zrefs (fun i => bb + (1 + 6 * i)) 12)))))), (mm, .inr (15, [.ref (d + 0), .int 0, .ref (d + 1), .int 0, .ref (d + 2), .ref (d + 3), .ref (d + 68), .ref (d + 77), .ref (d + 78), .int 0, .int 0, .ref (d + 79), .int 0, .int 0, .int 0, .ref (d + 80), .int 0, .int 0, .int 0, .int 0, .ref (d + 81), .ref (d + 82), .int (-1), .ref (d + 91), .int 0, .int 0, .ref (d + 92), .int 0, .ref (d + 93), .int 0, .ref (d + 94), .int 0, .ref (d + 95), .ref (d + 96), .ref (d + 97), .ref (d + 98), .int 0, .int 0, .ref (d + 99), .null, .null, .null, .null, .null, .ref (d + 148), .ref (d + 175), .ref (d + 176), .ref (d + 177), .int 0, .ref (d + 178), .ref (d + 179), .ref (d + 180), .ref (d + 185), .ref (d + 190), .ref (d + 191), .ref (d + 192), .ref (d + 193), .ref (d + 201), .ref (d + 209), .ref (d + 210), .ref (d + 211), .ref (d + 272), .ref (d + 273), .int 0, .ref (d + 274)])), (d + 81, .inl (aC 6, 12, .inr (.inr (.inr (.inr (zrefs (fun i => d + (7485 + 9 * i)) 12))))))] := zUp_D (lo := s.heap.size) hA (zUp_c (by omega) (zUp_c (by omega) (zUp_c (by omega) (zUp_c (by omega) (zUp_n)))))
    clear hPh hFh hPm hFm
    refine lv_aload_n hx hb dL_law_852 rfl (lv_at hl 2 rfl) ?_
    refine lv_aload_n hx hb dL_law_853 rfl (lv_at hl 3 rfl) ?_
    refine lv_iload_n hx hb dL_law_854 rfl (lv_at hl 0 rfl) ?_
    refine lv_iconst (v := 1) hx hb dL_law_855 (by decide) ?_
    refine lv_iadd hx hb dL_law_856 ?_
    refine lv_topi (fun y140249 ey140249 => ?_)
    obtain rfl : y140249 = 1 := by rw [ey140249]; decide
    try clear ey140249
    show W p l e _ s m _ below meth c _ _ _ _ QQ (F0 m 857 ls [.int 1, .ref b, .ref hh])
    refine zsld hx hb hX hbl hbA hS (zvp (by decide)) hx1 dL_law_857 ?_
    refine lv_aload_n hx hb dL_law_858 rfl (lv_at hl 3 rfl) ?_
    refine lv_iload_n hx hb dL_law_859 rfl (lv_at hl 0 rfl) ?_
    refine lv_iconst (v := 2) hx hb dL_law_860 (by decide) ?_
    refine lv_iadd hx hb dL_law_861 ?_
    refine lv_topi (fun y140250 ey140250 => ?_)
    obtain rfl : y140250 = 2 := by rw [ey140250]; decide
    try clear ey140250
    show W p l e _ s m _ below meth c _ _ _ _ QQ (F0 m 862 ls [.int 2, .ref b, .int x1, .ref hh])
    refine zsld hx hb hX hbl hbA hS (zvp (by decide)) hx2 dL_law_862 ?_
    refine zro_i hS hA (va_runV (As := [.int x1, .int x2]) (rest := []) ⟨hx, hb, hml, hown, hall⟩ (c_X11_close_out l dC dI aC hh bb x1 x2 H.size (zslot_0 hk)) (cwV 2 hall (zgV zw_641 zw_643 zw_644 zw_802 g_X11_close rfl) rfl rfl rfl (by decide +kernel) ⟨Nat.le_of_ble_eq_true rfl, Nat.le_of_ble_eq_true rfl⟩) (zPre_V (As := [.int x1, .int x2]) hK hP hD [0, 1] rfl (by decide +kernel) (ci := 10) (q0 := 0) rfl rfl) rfl rfl hl.1 rfl (lv_room (Nat.le_of_ble_eq_true rfl)) dL_law_863 ⟨Nat.le_of_ble_eq_true rfl, Nat.le_of_ble_eq_true rfl⟩) (fun ra L140251 hw hS' => ?_)
    clear hS
    have hS := hS'
    clear hS'
    have hwa := hw
    clear hw
    refine lv_aload_n hx hb dL_law_866 rfl (lv_at hl 1 rfl) ?_
    refine lv_aload_n hx hb dL_law_867 rfl (lv_at hl 3 rfl) ?_
    refine lv_iload_n hx hb dL_law_868 rfl (lv_at hl 0 rfl) ?_
    show W p l e _ s m _ below meth c _ _ _ _ QQ (F0 m 869 ls [.int 0, .ref b, .ref mm, .int ra])
    refine lv_iconst (v := 1) hx hb dL_law_869 (by decide) ?_
    refine lv_iadd hx hb dL_law_870 ?_
    refine lv_topi (fun y140252 ey140252 => ?_)
    obtain rfl : y140252 = 1 := by rw [ey140252]; decide
    try clear ey140252
    refine zsld hx hb hX hbl hbA hS (zvp (by decide)) hx1 dL_law_871 ?_
    refine lv_aload_n hx hb dL_law_872 rfl (lv_at hl 3 rfl) ?_
    refine lv_iload_n hx hb dL_law_873 rfl (lv_at hl 0 rfl) ?_
    show W p l e _ s m _ below meth c _ _ _ _ QQ (F0 m 874 ls [.int 0, .ref b, .int x1, .ref mm, .int ra])
    refine lv_iconst (v := 2) hx hb dL_law_874 (by decide) ?_
    refine lv_iadd hx hb dL_law_875 ?_
    refine lv_topi (fun y140253 ey140253 => ?_)
    obtain rfl : y140253 = 2 := by rw [ey140253]; decide
    try clear ey140253
    refine zsld hx hb hX hbl hbA hS (zvp (by decide)) hx2 dL_law_876 ?_
    refine zro_i hS hA (va_runV (As := [.int x1, .int x2]) (rest := [.int ra]) ⟨hx, hb, hml, hown, hall⟩ (c_X16_close_out l dC dI aC mm d x1 x2 H.size hk) (cwV 2 hall (zgV zw_645 zw_647 zw_648 zw_812 g_X16_close rfl) rfl rfl rfl (by decide +kernel) ⟨Nat.le_of_ble_eq_true rfl, Nat.le_of_ble_eq_true rfl⟩) (zPre_V (As := [.int x1, .int x2]) hK hP hD [2, 3] rfl (by decide +kernel) (ci := 15) (q0 := 0) rfl rfl) rfl rfl hl.1 rfl (lv_room (Nat.le_of_ble_eq_true rfl)) dL_law_877 ⟨Nat.le_of_ble_eq_true rfl, Nat.le_of_ble_eq_true rfl⟩) (fun rb L140254 hw hS' => ?_)
    clear hS
    have hS := hS'
    clear hS'
    have hwb := hw
    clear hw
    refine lv_icmp_eq (tgt := 1443) hx hb dL_law_880 (by decide) (fun _ => ?_) (fun hne => absurd (hwa.trans hwb.symm) hne)
    subst hQ
    subst hAe
    exact law_tail C1 (Nat.le_of_ble_eq_true rfl) (Nat.le_of_ble_eq_true rfl) hS (lv_sub hl [0, 3] rfl)

set_option maxHeartbeats 4000000 in
set_option maxRecDepth 100000 in
theorem law_recur {p : Program} {l : Launch} {e : Env} {s : State} {m : MethodId} {below : List Frame} {meth : Method} {c : Code} {b : Nat} {xs : Nat → Int32} {H : Heap} {locs : List Loc} {ls : Array Slot} {dC : Nat → ClassId} {dI : Nat → Nat → Nat} {aC : Nat → ClassId} {hh bb mm d : Nat} (C0 : lw_At p s m meth c b 6 xs) (hK : zK (dC, dI) aC s) (hR : zReady s H dC dI aC hh bb mm d) (hS : va_S (fun q => s.heap.size ≤ q) s.heap H locs) (hl : lv_has ls 4 [(3, .int 0), (2, .ref mm), (1, .ref hh), (0, .ref b)]) : W p l e room_1 s m #[Value.ref b] below meth c H locs 8431 1660372 (lw_Z below #[Value.ref b] s) (F0 m 885 ls []) := by
  have C1 := C0
  obtain ⟨hx, hb, hr, hml, hown0, hts, hX, hbl, hlocks, hgv⟩ := C0
  obtain ⟨hPh, hFh, hPm, hFm, ez1, ez2, ez3, ez4, hz0⟩ := hR
  have hown : s.vm.findClass RL = some m.cls := hown0
  have hall : ∀ w ∈ zAll, w.before #[Value.ref b] s = true := fun w h => hts w (zAll_in w h)
  have hbA : ¬ (fun q : Nat => s.heap.size ≤ q) b := Nat.not_le.mpr hbl
  generalize hAe : (fun q : Nat => s.heap.size ≤ q) = A at hS hbA
  have hA : ∀ q : Nat, s.heap.size ≤ q → A q := fun q h => by rw [← hAe]; exact h
  generalize hQ : lw_Z below #[Value.ref b] s = QQ
  obtain ⟨x1, hx1⟩ : ∃ y, xs (1 : Int32).toNatClampNeg = y := ⟨_, rfl⟩
  obtain ⟨x2, hx2⟩ : ∃ y, xs (2 : Int32).toNatClampNeg = y := ⟨_, rfl⟩
  obtain ⟨x3, hx3⟩ : ∃ y, xs (3 : Int32).toNatClampNeg = y := ⟨_, rfl⟩
  by_cases hk : zok x1 = true
  · obtain ⟨a1, ea1⟩ : ∃ q, q = bb + (1 + 6 * x1.toNatClampNeg) := ⟨_, rfl⟩
    obtain ⟨a2, ea2⟩ : ∃ q, q = d + (7485 + 9 * x1.toNatClampNeg) := ⟨_, rfl⟩
    have hn12 := zok_12 hk
    have hsl : zslot bb x1 = some a1 := by rw [ea1]; exact zslot_1 hk
    have hSl : va_P (dC, dI) vwCl (zSlotW aC a1) H := by rw [ea1]; exact hFh _ hn12
    have hTh : va_P (dC, dI) vwCl (zThW aC a2) H := by rw [ea2]; exact hFm _ hn12
    have hP : va_P (dC, dI) vwCl [(hh, .inr (10, [.ref (bb + 0), .ref (bb + 73), .ref (bb + 75), .ref (bb + 76), .ref (bb + 80), .ref (bb + 81), .ref (bb + 88), .ref (bb + 95), .ref (bb + 100), .ref (bb + 106), .int 0, .ref (bb + 107), .int 0])), (bb + 0, .inl (aC 3, 12, .inr (.inr (.inr (.inr (zrefs (fun i => bb + (1 + 6 * i)) 12)))))), (a1, .inr (5, [.int 0, .int 0, .int 0, .int 0, .int 0, .int 0, .int 0, .ref (a1 + 1), .ref (a1 + 2), .ref (a1 + 3), .ref (a1 + 4), .ref (a1 + 5)])), (mm, .inr (15, [.ref (d + 0), .int 0, .ref (d + 1), .int 0, .ref (d + 2), .ref (d + 3), .ref (d + 68), .ref (d + 77), .ref (d + 78), .int 0, .int 0, .ref (d + 79), .int 0, .int 0, .int 0, .ref (d + 80), .int 0, .int 0, .int 0, .int 0, .ref (d + 81), .ref (d + 82), .int (-1), .ref (d + 91), .int 0, .int 0, .ref (d + 92), .int 0, .ref (d + 93), .int 0, .ref (d + 94), .int 0, .ref (d + 95), .ref (d + 96), .ref (d + 97), .ref (d + 98), .int 0, .int 0, .ref (d + 99), .null, .null, .null, .null, .null, .ref (d + 148), .ref (d + 175), .ref (d + 176), .ref (d + 177), .int 0, .ref (d + 178), .ref (d + 179), .ref (d + 180), .ref (d + 185), .ref (d + 190), .ref (d + 191), .ref (d + 192), .ref (d + 193), .ref (d + 201), .ref (d + 209), .ref (d + 210), .ref (d + 211), .ref (d + 272), .ref (d + 273), .int 0, .ref (d + 274)])), (d + 81, .inl (aC 6, 12, .inr (.inr (.inr (.inr (zrefs (fun i => d + (7485 + 9 * i)) 12)))))), (a2, .inr (13, [.int 0, .ref (a2 + 1 + 0), .ref (a2 + 1 + 1), .int 0, .int 0, .int 0, .ref (a2 + 1 + 2), .ref (a2 + 1 + 3), .ref (a2 + 1 + 4), .ref (a2 + 1 + 5), .int 0, .ref (a2 + 1 + 6), .int 0, .int 0, .ref (a2 + 1 + 7)]))] H := zP_c (hPh 0 _ rfl) (zP_c (hPh 1 _ rfl) (zP_c (hSl 0 _ rfl) (zP_c (hPm 0 _ rfl) (zP_c (hPm 15 _ rfl) (zP_c (hTh 0 _ rfl) (zP_n))))))
    have hD : va_D A [(hh, .inr (10, [.ref (bb + 0), .ref (bb + 73), .ref (bb + 75), .ref (bb + 76), .ref (bb + 80), .ref (bb + 81), .ref (bb + 88), .ref (bb + 95), .ref (bb + 100), .ref (bb + 106), .int 0, .ref (bb + 107), .int 0])), (bb + 0, .inl (aC 3, 12, .inr (.inr (.inr (.inr (zrefs (fun i => bb + (1 + 6 * i)) 12)))))), (a1, .inr (5, [.int 0, .int 0, .int 0, .int 0, .int 0, .int 0, .int 0, .ref (a1 + 1), .ref (a1 + 2), .ref (a1 + 3), .ref (a1 + 4), .ref (a1 + 5)])), (mm, .inr (15, [.ref (d + 0), .int 0, .ref (d + 1), .int 0, .ref (d + 2), .ref (d + 3), .ref (d + 68), .ref (d + 77), .ref (d + 78), .int 0, .int 0, .ref (d + 79), .int 0, .int 0, .int 0, .ref (d + 80), .int 0, .int 0, .int 0, .int 0, .ref (d + 81), .ref (d + 82), .int (-1), .ref (d + 91), .int 0, .int 0, .ref (d + 92), .int 0, .ref (d + 93), .int 0, .ref (d + 94), .int 0, .ref (d + 95), .ref (d + 96), .ref (d + 97), .ref (d + 98), .int 0, .int 0, .ref (d + 99), .null, .null, .null, .null, .null, .ref (d + 148), .ref (d + 175), .ref (d + 176), .ref (d + 177), .int 0, .ref (d + 178), .ref (d + 179), .ref (d + 180), .ref (d + 185), .ref (d + 190), .ref (d + 191), .ref (d + 192), .ref (d + 193), .ref (d + 201), .ref (d + 209), .ref (d + 210), .ref (d + 211), .ref (d + 272), .ref (d + 273), .int 0, .ref (d + 274)])), (d + 81, .inl (aC 6, 12, .inr (.inr (.inr (.inr (zrefs (fun i => d + (7485 + 9 * i)) 12)))))), (a2, .inr (13, [.int 0, .ref (a2 + 1 + 0), .ref (a2 + 1 + 1), .int 0, .int 0, .int 0, .ref (a2 + 1 + 2), .ref (a2 + 1 + 3), .ref (a2 + 1 + 4), .ref (a2 + 1 + 5), .int 0, .ref (a2 + 1 + 6), .int 0, .int 0, .ref (a2 + 1 + 7)]))] := zUp_D (lo := s.heap.size) hA (zUp_c (by omega) (zUp_c (by omega) (zUp_c (by omega) (zUp_c (by omega) (zUp_c (by omega) (zUp_c (by omega) (zUp_n)))))))
    clear hPh hFh hPm hFm hSl hTh
    refine lv_aload_n hx hb dL_law_885 rfl (lv_at hl 2 rfl) ?_
    refine lv_aload_n hx hb dL_law_886 rfl (lv_at hl 3 rfl) ?_
    refine lv_iload_n hx hb dL_law_887 rfl (lv_at hl 0 rfl) ?_
    refine lv_iconst (v := 1) hx hb dL_law_888 (by decide) ?_
    refine lv_iadd hx hb dL_law_889 ?_
    refine lv_topi (fun y140255 ey140255 => ?_)
    obtain rfl : y140255 = 1 := by rw [ey140255]; decide
    try clear ey140255
    show W p l e _ s m _ below meth c _ _ _ _ QQ (F0 m 890 ls [.int 1, .ref b, .ref hh])
    refine zsld hx hb hX hbl hbA hS (zvp (by decide)) hx1 dL_law_890 ?_
    refine lv_aload_n hx hb dL_law_891 rfl (lv_at hl 3 rfl) ?_
    refine lv_iload_n hx hb dL_law_892 rfl (lv_at hl 0 rfl) ?_
    refine lv_iconst (v := 2) hx hb dL_law_893 (by decide) ?_
    refine lv_iadd hx hb dL_law_894 ?_
    refine lv_topi (fun y140256 ey140256 => ?_)
    obtain rfl : y140256 = 2 := by rw [ey140256]; decide
    try clear ey140256
    show W p l e _ s m _ below meth c _ _ _ _ QQ (F0 m 895 ls [.int 2, .ref b, .int x1, .ref hh])
    refine zsld hx hb hX hbl hbA hS (zvp (by decide)) hx2 dL_law_895 ?_
    refine lv_aload_n hx hb dL_law_896 rfl (lv_at hl 3 rfl) ?_
    refine lv_iload_n hx hb dL_law_897 rfl (lv_at hl 0 rfl) ?_
    refine lv_iconst (v := 3) hx hb dL_law_898 (by decide) ?_
    refine lv_iadd hx hb dL_law_899 ?_
    refine lv_topi (fun y140257 ey140257 => ?_)
    obtain rfl : y140257 = 3 := by rw [ey140257]; decide
    try clear ey140257
    show W p l e _ s m _ below meth c _ _ _ _ QQ (F0 m 900 ls [.int 3, .ref b, .int x2, .int x1, .ref hh])
    refine zsld hx hb hX hbl hbA hS (zvp (by decide)) hx3 dL_law_900 ?_
    refine zro_i hS hA (va_runV (As := [.int x1, .int x2, .int x3]) (rest := []) ⟨hx, hb, hml, hown, hall⟩ (c_X11_recur_in l dC dI aC hh bb a1 x1 x2 x3 H.size hsl) (cwV 3 hall (zgV zw_649 zw_651 zw_652 zw_802 g_X11_recur rfl) rfl rfl rfl (by decide +kernel) ⟨Nat.le_of_ble_eq_true rfl, Nat.le_of_ble_eq_true rfl⟩) (zPre_V (As := [.int x1, .int x2, .int x3]) hK hP hD [0, 1, 2] rfl (by decide +kernel) (ci := 10) (q0 := 0) rfl rfl) rfl rfl hl.1 rfl (lv_room (Nat.le_of_ble_eq_true rfl)) dL_law_901 ⟨Nat.le_of_ble_eq_true rfl, Nat.le_of_ble_eq_true rfl⟩) (fun ra L140258 hw hS' => ?_)
    clear hS
    have hS := hS'
    clear hS'
    have hwa := hw
    clear hw
    refine lv_aload_n hx hb dL_law_904 rfl (lv_at hl 1 rfl) ?_
    refine lv_aload_n hx hb dL_law_905 rfl (lv_at hl 3 rfl) ?_
    refine lv_iload_n hx hb dL_law_906 rfl (lv_at hl 0 rfl) ?_
    show W p l e _ s m _ below meth c _ _ _ _ QQ (F0 m 907 ls [.int 0, .ref b, .ref mm, .int ra])
    refine lv_iconst (v := 1) hx hb dL_law_907 (by decide) ?_
    refine lv_iadd hx hb dL_law_908 ?_
    refine lv_topi (fun y140259 ey140259 => ?_)
    obtain rfl : y140259 = 1 := by rw [ey140259]; decide
    try clear ey140259
    refine zsld hx hb hX hbl hbA hS (zvp (by decide)) hx1 dL_law_909 ?_
    refine lv_aload_n hx hb dL_law_910 rfl (lv_at hl 3 rfl) ?_
    refine lv_iload_n hx hb dL_law_911 rfl (lv_at hl 0 rfl) ?_
    show W p l e _ s m _ below meth c _ _ _ _ QQ (F0 m 912 ls [.int 0, .ref b, .int x1, .ref mm, .int ra])
    refine lv_iconst (v := 2) hx hb dL_law_912 (by decide) ?_
    refine lv_iadd hx hb dL_law_913 ?_
    refine lv_topi (fun y140260 ey140260 => ?_)
    obtain rfl : y140260 = 2 := by rw [ey140260]; decide
    try clear ey140260
    refine zsld hx hb hX hbl hbA hS (zvp (by decide)) hx2 dL_law_914 ?_
    refine lv_aload_n hx hb dL_law_915 rfl (lv_at hl 3 rfl) ?_
    refine lv_iload_n hx hb dL_law_916 rfl (lv_at hl 0 rfl) ?_
    show W p l e _ s m _ below meth c _ _ _ _ QQ (F0 m 917 ls [.int 0, .ref b, .int x2, .int x1, .ref mm, .int ra])
    refine lv_iconst (v := 3) hx hb dL_law_917 (by decide) ?_
    refine lv_iadd hx hb dL_law_918 ?_
    refine lv_topi (fun y140261 ey140261 => ?_)
    obtain rfl : y140261 = 3 := by rw [ey140261]; decide
    try clear ey140261
    refine zsld hx hb hX hbl hbA hS (zvp (by decide)) hx3 dL_law_919 ?_
    refine zro_i hS hA (va_runV (As := [.int x1, .int x2, .int x3]) (rest := [.int ra]) ⟨hx, hb, hml, hown, hall⟩ (c_X16_recur_in l dC dI aC mm d a2 x1 x2 x3 H.size hk ea2) (cwV 3 hall (zgV zw_653 zw_655 zw_656 zw_812 g_X16_recur rfl) rfl rfl rfl (by decide +kernel) ⟨Nat.le_of_ble_eq_true rfl, Nat.le_of_ble_eq_true rfl⟩) (zPre_V (As := [.int x1, .int x2, .int x3]) hK hP hD [3, 4, 5] rfl (by decide +kernel) (ci := 15) (q0 := 0) rfl rfl) rfl rfl hl.1 rfl (lv_room (Nat.le_of_ble_eq_true rfl)) dL_law_920 ⟨Nat.le_of_ble_eq_true rfl, Nat.le_of_ble_eq_true rfl⟩) (fun rb L140262 hw hS' => ?_)
    clear hS
    have hS := hS'
    clear hS'
    have hwb := hw
    clear hw
    refine lv_icmp_eq (tgt := 1443) hx hb dL_law_923 (by decide) (fun _ => ?_) (fun hne => absurd (hwa.trans hwb.symm) hne)
    subst hQ
    subst hAe
    exact law_tail C1 (Nat.le_of_ble_eq_true rfl) (Nat.le_of_ble_eq_true rfl) hS (lv_sub hl [0, 3] rfl)
  · have hP : va_P (dC, dI) vwCl [(hh, .inr (10, [.ref (bb + 0), .ref (bb + 73), .ref (bb + 75), .ref (bb + 76), .ref (bb + 80), .ref (bb + 81), .ref (bb + 88), .ref (bb + 95), .ref (bb + 100), .ref (bb + 106), .int 0, .ref (bb + 107), .int 0])), (bb + 0, .inl (aC 3, 12, .inr (.inr (.inr (.inr (zrefs (fun i => bb + (1 + 6 * i)) 12)))))), (mm, .inr (15, [.ref (d + 0), .int 0, .ref (d + 1), .int 0, .ref (d + 2), .ref (d + 3), .ref (d + 68), .ref (d + 77), .ref (d + 78), .int 0, .int 0, .ref (d + 79), .int 0, .int 0, .int 0, .ref (d + 80), .int 0, .int 0, .int 0, .int 0, .ref (d + 81), .ref (d + 82), .int (-1), .ref (d + 91), .int 0, .int 0, .ref (d + 92), .int 0, .ref (d + 93), .int 0, .ref (d + 94), .int 0, .ref (d + 95), .ref (d + 96), .ref (d + 97), .ref (d + 98), .int 0, .int 0, .ref (d + 99), .null, .null, .null, .null, .null, .ref (d + 148), .ref (d + 175), .ref (d + 176), .ref (d + 177), .int 0, .ref (d + 178), .ref (d + 179), .ref (d + 180), .ref (d + 185), .ref (d + 190), .ref (d + 191), .ref (d + 192), .ref (d + 193), .ref (d + 201), .ref (d + 209), .ref (d + 210), .ref (d + 211), .ref (d + 272), .ref (d + 273), .int 0, .ref (d + 274)])), (d + 81, .inl (aC 6, 12, .inr (.inr (.inr (.inr (zrefs (fun i => d + (7485 + 9 * i)) 12))))))] H := zP_c (hPh 0 _ rfl) (zP_c (hPh 1 _ rfl) (zP_c (hPm 0 _ rfl) (zP_c (hPm 15 _ rfl) (zP_n))))
    have hD : va_D A [(hh, .inr (10, [.ref (bb + 0), .ref (bb + 73), .ref (bb + 75), .ref (bb + 76), .ref (bb + 80), .ref (bb + 81), .ref (bb + 88), .ref (bb + 95), .ref (bb + 100), .ref (bb + 106), .int 0, .ref (bb + 107), .int 0])), (bb + 0, .inl (aC 3, 12, .inr (.inr (.inr (.inr (zrefs (fun i => bb + (1 + 6 * i)) 12)))))), (mm, .inr (15, [.ref (d + 0), .int 0, .ref (d + 1), .int 0, .ref (d + 2), .ref (d + 3), .ref (d + 68), .ref (d + 77), .ref (d + 78), .int 0, .int 0, .ref (d + 79), .int 0, .int 0, .int 0, .ref (d + 80), .int 0, .int 0, .int 0, .int 0, .ref (d + 81), .ref (d + 82), .int (-1), .ref (d + 91), .int 0, .int 0, .ref (d + 92), .int 0, .ref (d + 93), .int 0, .ref (d + 94), .int 0, .ref (d + 95), .ref (d + 96), .ref (d + 97), .ref (d + 98), .int 0, .int 0, .ref (d + 99), .null, .null, .null, .null, .null, .ref (d + 148), .ref (d + 175), .ref (d + 176), .ref (d + 177), .int 0, .ref (d + 178), .ref (d + 179), .ref (d + 180), .ref (d + 185), .ref (d + 190), .ref (d + 191), .ref (d + 192), .ref (d + 193), .ref (d + 201), .ref (d + 209), .ref (d + 210), .ref (d + 211), .ref (d + 272), .ref (d + 273), .int 0, .ref (d + 274)])), (d + 81, .inl (aC 6, 12, .inr (.inr (.inr (.inr (zrefs (fun i => d + (7485 + 9 * i)) 12))))))] := zUp_D (lo := s.heap.size) hA (zUp_c (by omega) (zUp_c (by omega) (zUp_c (by omega) (zUp_c (by omega) (zUp_n)))))
    clear hPh hFh hPm hFm
    refine lv_aload_n hx hb dL_law_885 rfl (lv_at hl 2 rfl) ?_
    refine lv_aload_n hx hb dL_law_886 rfl (lv_at hl 3 rfl) ?_
    refine lv_iload_n hx hb dL_law_887 rfl (lv_at hl 0 rfl) ?_
    refine lv_iconst (v := 1) hx hb dL_law_888 (by decide) ?_
    refine lv_iadd hx hb dL_law_889 ?_
    refine lv_topi (fun y140263 ey140263 => ?_)
    obtain rfl : y140263 = 1 := by rw [ey140263]; decide
    try clear ey140263
    show W p l e _ s m _ below meth c _ _ _ _ QQ (F0 m 890 ls [.int 1, .ref b, .ref hh])
    refine zsld hx hb hX hbl hbA hS (zvp (by decide)) hx1 dL_law_890 ?_
    refine lv_aload_n hx hb dL_law_891 rfl (lv_at hl 3 rfl) ?_
    refine lv_iload_n hx hb dL_law_892 rfl (lv_at hl 0 rfl) ?_
    refine lv_iconst (v := 2) hx hb dL_law_893 (by decide) ?_
    refine lv_iadd hx hb dL_law_894 ?_
    refine lv_topi (fun y140264 ey140264 => ?_)
    obtain rfl : y140264 = 2 := by rw [ey140264]; decide
    try clear ey140264
    show W p l e _ s m _ below meth c _ _ _ _ QQ (F0 m 895 ls [.int 2, .ref b, .int x1, .ref hh])
    refine zsld hx hb hX hbl hbA hS (zvp (by decide)) hx2 dL_law_895 ?_
    refine lv_aload_n hx hb dL_law_896 rfl (lv_at hl 3 rfl) ?_
    refine lv_iload_n hx hb dL_law_897 rfl (lv_at hl 0 rfl) ?_
    refine lv_iconst (v := 3) hx hb dL_law_898 (by decide) ?_
    refine lv_iadd hx hb dL_law_899 ?_
    refine lv_topi (fun y140265 ey140265 => ?_)
    obtain rfl : y140265 = 3 := by rw [ey140265]; decide
    try clear ey140265
    show W p l e _ s m _ below meth c _ _ _ _ QQ (F0 m 900 ls [.int 3, .ref b, .int x2, .int x1, .ref hh])
    refine zsld hx hb hX hbl hbA hS (zvp (by decide)) hx3 dL_law_900 ?_
    refine zro_i hS hA (va_runV (As := [.int x1, .int x2, .int x3]) (rest := []) ⟨hx, hb, hml, hown, hall⟩ (c_X11_recur_out l dC dI aC hh bb x1 x2 x3 H.size (zslot_0 hk)) (cwV 3 hall (zgV zw_649 zw_651 zw_652 zw_802 g_X11_recur rfl) rfl rfl rfl (by decide +kernel) ⟨Nat.le_of_ble_eq_true rfl, Nat.le_of_ble_eq_true rfl⟩) (zPre_V (As := [.int x1, .int x2, .int x3]) hK hP hD [0, 1] rfl (by decide +kernel) (ci := 10) (q0 := 0) rfl rfl) rfl rfl hl.1 rfl (lv_room (Nat.le_of_ble_eq_true rfl)) dL_law_901 ⟨Nat.le_of_ble_eq_true rfl, Nat.le_of_ble_eq_true rfl⟩) (fun ra L140266 hw hS' => ?_)
    clear hS
    have hS := hS'
    clear hS'
    have hwa := hw
    clear hw
    refine lv_aload_n hx hb dL_law_904 rfl (lv_at hl 1 rfl) ?_
    refine lv_aload_n hx hb dL_law_905 rfl (lv_at hl 3 rfl) ?_
    refine lv_iload_n hx hb dL_law_906 rfl (lv_at hl 0 rfl) ?_
    show W p l e _ s m _ below meth c _ _ _ _ QQ (F0 m 907 ls [.int 0, .ref b, .ref mm, .int ra])
    refine lv_iconst (v := 1) hx hb dL_law_907 (by decide) ?_
    refine lv_iadd hx hb dL_law_908 ?_
    refine lv_topi (fun y140267 ey140267 => ?_)
    obtain rfl : y140267 = 1 := by rw [ey140267]; decide
    try clear ey140267
    refine zsld hx hb hX hbl hbA hS (zvp (by decide)) hx1 dL_law_909 ?_
    refine lv_aload_n hx hb dL_law_910 rfl (lv_at hl 3 rfl) ?_
    refine lv_iload_n hx hb dL_law_911 rfl (lv_at hl 0 rfl) ?_
    show W p l e _ s m _ below meth c _ _ _ _ QQ (F0 m 912 ls [.int 0, .ref b, .int x1, .ref mm, .int ra])
    refine lv_iconst (v := 2) hx hb dL_law_912 (by decide) ?_
    refine lv_iadd hx hb dL_law_913 ?_
    refine lv_topi (fun y140268 ey140268 => ?_)
    obtain rfl : y140268 = 2 := by rw [ey140268]; decide
    try clear ey140268
    refine zsld hx hb hX hbl hbA hS (zvp (by decide)) hx2 dL_law_914 ?_
    refine lv_aload_n hx hb dL_law_915 rfl (lv_at hl 3 rfl) ?_
    refine lv_iload_n hx hb dL_law_916 rfl (lv_at hl 0 rfl) ?_
    show W p l e _ s m _ below meth c _ _ _ _ QQ (F0 m 917 ls [.int 0, .ref b, .int x2, .int x1, .ref mm, .int ra])
    refine lv_iconst (v := 3) hx hb dL_law_917 (by decide) ?_
    refine lv_iadd hx hb dL_law_918 ?_
    refine lv_topi (fun y140269 ey140269 => ?_)
    obtain rfl : y140269 = 3 := by rw [ey140269]; decide
    try clear ey140269
    refine zsld hx hb hX hbl hbA hS (zvp (by decide)) hx3 dL_law_919 ?_
    refine zro_i hS hA (va_runV (As := [.int x1, .int x2, .int x3]) (rest := [.int ra]) ⟨hx, hb, hml, hown, hall⟩ (c_X16_recur_out l dC dI aC mm d x1 x2 x3 H.size hk) (cwV 3 hall (zgV zw_653 zw_655 zw_656 zw_812 g_X16_recur rfl) rfl rfl rfl (by decide +kernel) ⟨Nat.le_of_ble_eq_true rfl, Nat.le_of_ble_eq_true rfl⟩) (zPre_V (As := [.int x1, .int x2, .int x3]) hK hP hD [2, 3] rfl (by decide +kernel) (ci := 15) (q0 := 0) rfl rfl) rfl rfl hl.1 rfl (lv_room (Nat.le_of_ble_eq_true rfl)) dL_law_920 ⟨Nat.le_of_ble_eq_true rfl, Nat.le_of_ble_eq_true rfl⟩) (fun rb L140270 hw hS' => ?_)
    clear hS
    have hS := hS'
    clear hS'
    have hwb := hw
    clear hw
    refine lv_icmp_eq (tgt := 1443) hx hb dL_law_923 (by decide) (fun _ => ?_) (fun hne => absurd (hwa.trans hwb.symm) hne)
    subst hQ
    subst hAe
    exact law_tail C1 (Nat.le_of_ble_eq_true rfl) (Nat.le_of_ble_eq_true rfl) hS (lv_sub hl [0, 3] rfl)
