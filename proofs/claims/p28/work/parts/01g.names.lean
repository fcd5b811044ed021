theorem dL_act_639 : decode cL_act 639 = .ok (.iload 16, 2) := by decide +kernel
theorem dL_act_641 : decode cL_act 641 = .ok (.iconst 0, 1) := by decide +kernel
theorem dL_act_642 : decode cL_act 642 = .ok (.iastore, 1) := by decide +kernel
theorem dL_act_643 : decode cL_act 643 = .ok (.iinc 16 1, 3) := by decide +kernel
theorem dL_act_646 : decode cL_act 646 = .ok (.goto (-33), 3) := by decide +kernel
theorem dL_act_649 : decode cL_act 649 = .ok (.aload_n 0, 1) := by decide +kernel
theorem dL_act_650 : decode cL_act 650 = .ok (.iload 9, 2) := by decide +kernel
theorem dL_act_652 : decode cL_act 652 = .ok (.iload 13, 2) := by decide +kernel
theorem dL_act_654 : decode cL_act 654 = .ok (.iload 11, 2) := by decide +kernel
theorem dL_act_656 : decode cL_act 656 = .ok (.invokevirtual 104, 3) := by decide +kernel
theorem dL_act_659 : decode cL_act 659 = .ok (.iload 15, 2) := by decide +kernel
theorem dL_act_661 : decode cL_act 661 = .ok (.if_icmp .ne 7, 3) := by decide +kernel
theorem dL_act_664 : decode cL_act 664 = .ok (.iconst 1, 1) := by decide +kernel
theorem dL_act_665 : decode cL_act 665 = .ok (.goto 4, 3) := by decide +kernel
theorem dL_act_668 : decode cL_act 668 = .ok (.iconst 0, 1) := by decide +kernel
theorem dL_act_669 : decode cL_act 669 = .ok (.ireturn, 1) := by decide +kernel
theorem dL_act_670 : decode cL_act 670 = .ok (.iload_n 1, 1) := by decide +kernel
theorem dL_act_671 : decode cL_act 671 = .ok (.bipush 12, 2) := by decide +kernel
theorem dL_act_673 : decode cL_act 673 = .ok (.if_icmp .ne 119, 3) := by decide +kernel
theorem dL_act_676 : decode cL_act 676 = .ok (.iconst 0, 1) := by decide +kernel
theorem dL_act_677 : decode cL_act 677 = .ok (.istore 13, 2) := by decide +kernel
theorem dL_act_679 : decode cL_act 679 = .ok (.iconst 0, 1) := by decide +kernel
theorem dL_act_680 : decode cL_act 680 = .ok (.istore 14, 2) := by decide +kernel
theorem dL_act_682 : decode cL_act 682 = .ok (.iload 14, 2) := by decide +kernel
theorem dL_act_684 : decode cL_act 684 = .ok (.bipush 24, 2) := by decide +kernel
theorem dL_act_686 : decode cL_act 686 = .ok (.if_icmp .ge 49, 3) := by decide +kernel
theorem dL_act_689 : decode cL_act 689 = .ok (.iconst 4, 1) := by decide +kernel
theorem dL_act_690 : decode cL_act 690 = .ok (.bipush 11, 2) := by decide +kernel
theorem dL_act_692 : decode cL_act 692 = .ok (.iload 14, 2) := by decide +kernel
theorem dL_act_694 : decode cL_act 694 = .ok (.iconst 4, 1) := by decide +kernel
theorem dL_act_695 : decode cL_act 695 = .ok (.idiv, 1) := by decide +kernel
theorem dL_act_696 : decode cL_act 696 = .ok (.isub, 1) := by decide +kernel
theorem dL_act_697 : decode cL_act 697 = .ok (.imul, 1) := by decide +kernel
theorem dL_act_698 : decode cL_act 698 = .ok (.iload 14, 2) := by decide +kernel
theorem dL_act_700 : decode cL_act 700 = .ok (.iconst 4, 1) := by decide +kernel
theorem dL_act_701 : decode cL_act 701 = .ok (.irem, 1) := by decide +kernel
theorem dL_act_702 : decode cL_act 702 = .ok (.iadd, 1) := by decide +kernel
theorem dL_act_703 : decode cL_act 703 = .ok (.istore 15, 2) := by decide +kernel
theorem dL_act_705 : decode cL_act 705 = .ok (.aload 10, 2) := by decide +kernel
theorem dL_act_707 : decode cL_act 707 = .ok (.iload 14, 2) := by decide +kernel
theorem dL_act_709 : decode cL_act 709 = .ok (.iaload, 1) := by decide +kernel
theorem dL_act_710 : decode cL_act 710 = .ok (.istore 16, 2) := by decide +kernel
theorem dL_act_712 : decode cL_act 712 = .ok (.aload 10, 2) := by decide +kernel
theorem dL_act_714 : decode cL_act 714 = .ok (.iload 14, 2) := by decide +kernel
theorem dL_act_716 : decode cL_act 716 = .ok (.aload 10, 2) := by decide +kernel
theorem dL_act_718 : decode cL_act 718 = .ok (.iload 15, 2) := by decide +kernel
theorem dL_act_720 : decode cL_act 720 = .ok (.iaload, 1) := by decide +kernel
theorem dL_act_721 : decode cL_act 721 = .ok (.iastore, 1) := by decide +kernel
theorem dL_act_722 : decode cL_act 722 = .ok (.aload 10, 2) := by decide +kernel
theorem dL_act_724 : decode cL_act 724 = .ok (.iload 15, 2) := by decide +kernel
theorem dL_act_726 : decode cL_act 726 = .ok (.iload 16, 2) := by decide +kernel
theorem dL_act_728 : decode cL_act 728 = .ok (.iastore, 1) := by decide +kernel
theorem dL_act_729 : decode cL_act 729 = .ok (.iinc 14 1, 3) := by decide +kernel
theorem dL_act_732 : decode cL_act 732 = .ok (.goto (-50), 3) := by decide +kernel
theorem dL_act_735 : decode cL_act 735 = .ok (.iconst 0, 1) := by decide +kernel
theorem dL_act_736 : decode cL_act 736 = .ok (.istore 14, 2) := by decide +kernel
theorem dL_act_738 : decode cL_act 738 = .ok (.iload 14, 2) := by decide +kernel
theorem dL_act_740 : decode cL_act 740 = .ok (.bipush 12, 2) := by decide +kernel
theorem dL_act_742 : decode cL_act 742 = .ok (.if_icmp .ge 33, 3) := by decide +kernel
theorem dL_act_745 : decode cL_act 745 = .ok (.iload 13, 2) := by decide +kernel
theorem dL_act_747 : decode cL_act 747 = .ok (.aload 10, 2) := by decide +kernel
theorem dL_act_749 : decode cL_act 749 = .ok (.iload 14, 2) := by decide +kernel
theorem dL_act_751 : decode cL_act 751 = .ok (.invokestatic 9, 3) := by decide +kernel
theorem dL_act_754 : decode cL_act 754 = .ok (.aload 7, 2) := by decide +kernel
theorem dL_act_756 : decode cL_act 756 = .ok (.iconst 1, 1) := by decide +kernel
theorem dL_act_757 : decode cL_act 757 = .ok (.iaload, 1) := by decide +kernel
theorem dL_act_758 : decode cL_act 758 = .ok (.if_icmp .lt 7, 3) := by decide +kernel
theorem dL_act_761 : decode cL_act 761 = .ok (.iconst 1, 1) := by decide +kernel
theorem dL_act_762 : decode cL_act 762 = .ok (.goto 4, 3) := by decide +kernel
theorem dL_act_765 : decode cL_act 765 = .ok (.iconst 0, 1) := by decide +kernel
theorem dL_act_766 : decode cL_act 766 = .ok (.iadd, 1) := by decide +kernel
theorem dL_act_767 : decode cL_act 767 = .ok (.istore 13, 2) := by decide +kernel
theorem dL_act_769 : decode cL_act 769 = .ok (.iinc 14 1, 3) := by decide +kernel
theorem dL_act_772 : decode cL_act 772 = .ok (.goto (-34), 3) := by decide +kernel
theorem dL_act_775 : decode cL_act 775 = .ok (.aload_n 0, 1) := by decide +kernel
theorem dL_act_776 : decode cL_act 776 = .ok (.iload 9, 2) := by decide +kernel
theorem dL_act_778 : decode cL_act 778 = .ok (.invokevirtual 107, 3) := by decide +kernel
theorem dL_act_781 : decode cL_act 781 = .ok (.iload 13, 2) := by decide +kernel
theorem dL_act_783 : decode cL_act 783 = .ok (.if_icmp .ne 7, 3) := by decide +kernel
theorem dL_act_786 : decode cL_act 786 = .ok (.iconst 1, 1) := by decide +kernel
theorem dL_act_787 : decode cL_act 787 = .ok (.goto 4, 3) := by decide +kernel
theorem dL_act_790 : decode cL_act 790 = .ok (.iconst 0, 1) := by decide +kernel
theorem dL_act_791 : decode cL_act 791 = .ok (.ireturn, 1) := by decide +kernel
theorem dL_act_792 : decode cL_act 792 = .ok (.iload_n 1, 1) := by decide +kernel
theorem dL_act_793 : decode cL_act 793 = .ok (.bipush 13, 2) := by decide +kernel
theorem dL_act_795 : decode cL_act 795 = .ok (.if_icmp .ne 53, 3) := by decide +kernel
theorem dL_act_798 : decode cL_act 798 = .ok (.aload 7, 2) := by decide +kernel
theorem dL_act_800 : decode cL_act 800 = .ok (.iconst 4, 1) := by decide +kernel
theorem dL_act_801 : decode cL_act 801 = .ok (.iload 12, 2) := by decide +kernel
theorem dL_act_803 : decode cL_act 803 = .ok (.iadd, 1) := by decide +kernel
theorem dL_act_804 : decode cL_act 804 = .ok (.iaload, 1) := by decide +kernel
theorem dL_act_805 : decode cL_act 805 = .ok (.istore 13, 2) := by decide +kernel
theorem dL_act_807 : decode cL_act 807 = .ok (.aload 7, 2) := by decide +kernel
theorem dL_act_809 : decode cL_act 809 = .ok (.iconst 4, 1) := by decide +kernel
theorem dL_act_810 : decode cL_act 810 = .ok (.iload 12, 2) := by decide +kernel
theorem dL_act_812 : decode cL_act 812 = .ok (.iadd, 1) := by decide +kernel
theorem dL_act_813 : decode cL_act 813 = .ok (.iconst 1, 1) := by decide +kernel
theorem dL_act_814 : decode cL_act 814 = .ok (.iload_n 3, 1) := by decide +kernel
theorem dL_act_815 : decode cL_act 815 = .ok (.iconst 3, 1) := by decide +kernel
theorem dL_act_816 : decode cL_act 816 = .ok (.ishr, 1) := by decide +kernel
theorem dL_act_817 : decode cL_act 817 = .ok (.bipush 100, 2) := by decide +kernel
theorem dL_act_819 : decode cL_act 819 = .ok (.invokestatic 54, 3) := by decide +kernel
theorem dL_act_822 : decode cL_act 822 = .ok (.iadd, 1) := by decide +kernel
theorem dL_act_823 : decode cL_act 823 = .ok (.iastore, 1) := by decide +kernel
theorem dL_act_824 : decode cL_act 824 = .ok (.aload_n 0, 1) := by decide +kernel
theorem dL_act_825 : decode cL_act 825 = .ok (.iload 12, 2) := by decide +kernel
theorem dL_act_827 : decode cL_act 827 = .ok (.aload 7, 2) := by decide +kernel
theorem dL_act_829 : decode cL_act 829 = .ok (.iconst 4, 1) := by decide +kernel
theorem dL_act_830 : decode cL_act 830 = .ok (.iload 12, 2) := by decide +kernel
theorem dL_act_832 : decode cL_act 832 = .ok (.iadd, 1) := by decide +kernel
theorem dL_act_833 : decode cL_act 833 = .ok (.iaload, 1) := by decide +kernel
theorem dL_act_834 : decode cL_act 834 = .ok (.invokevirtual 110, 3) := by decide +kernel
theorem dL_act_837 : decode cL_act 837 = .ok (.iload 13, 2) := by decide +kernel
theorem dL_act_839 : decode cL_act 839 = .ok (.if_icmp .ne 7, 3) := by decide +kernel
theorem dL_act_842 : decode cL_act 842 = .ok (.iconst 1, 1) := by decide +kernel
theorem dL_act_843 : decode cL_act 843 = .ok (.goto 4, 3) := by decide +kernel
theorem dL_act_846 : decode cL_act 846 = .ok (.iconst 0, 1) := by decide +kernel
theorem dL_act_847 : decode cL_act 847 = .ok (.ireturn, 1) := by decide +kernel
theorem dL_act_848 : decode cL_act 848 = .ok (.aload 7, 2) := by decide +kernel
theorem dL_act_850 : decode cL_act 850 = .ok (.iload 12, 2) := by decide +kernel
theorem dL_act_852 : decode cL_act 852 = .ok (.iaload, 1) := by decide +kernel
theorem dL_act_853 : decode cL_act 853 = .ok (.istore 13, 2) := by decide +kernel
theorem dL_act_855 : decode cL_act 855 = .ok (.aload 7, 2) := by decide +kernel
theorem dL_act_857 : decode cL_act 857 = .ok (.iload 12, 2) := by decide +kernel
theorem dL_act_859 : decode cL_act 859 = .ok (.iload 12, 2) := by decide +kernel
theorem dL_act_861 : decode cL_act 861 = .ok (.ifCond .ne 15, 3) := by decide +kernel
theorem dL_act_864 : decode cL_act 864 = .ok (.iload_n 3, 1) := by decide +kernel
theorem dL_act_865 : decode cL_act 865 = .ok (.iconst 3, 1) := by decide +kernel
theorem dL_act_866 : decode cL_act 866 = .ok (.ishr, 1) := by decide +kernel
theorem dL_act_867 : decode cL_act 867 = .ok (.sipush 1001, 3) := by decide +kernel
theorem dL_act_870 : decode cL_act 870 = .ok (.invokestatic 54, 3) := by decide +kernel
theorem dL_act_873 : decode cL_act 873 = .ok (.goto 62, 3) := by decide +kernel
theorem dL_act_876 : decode cL_act 876 = .ok (.iload 12, 2) := by decide +kernel
theorem dL_act_878 : decode cL_act 878 = .ok (.iconst 1, 1) := by decide +kernel
theorem dL_act_879 : decode cL_act 879 = .ok (.if_icmp .ne 31, 3) := by decide +kernel
theorem dL_act_882 : decode cL_act 882 = .ok (.bipush 10, 2) := by decide +kernel
theorem dL_act_884 : decode cL_act 884 = .ok (.iload_n 3, 1) := by decide +kernel
theorem dL_act_885 : decode cL_act 885 = .ok (.iconst 3, 1) := by decide +kernel
theorem dL_act_886 : decode cL_act 886 = .ok (.ishr, 1) := by decide +kernel
theorem dL_act_887 : decode cL_act 887 = .ok (.iload_n 2, 1) := by decide +kernel
theorem dL_act_888 : decode cL_act 888 = .ok (.iconst 2, 1) := by decide +kernel
theorem dL_act_889 : decode cL_act 889 = .ok (.invokestatic 54, 3) := by decide +kernel
theorem dL_act_892 : decode cL_act 892 = .ok (.ifCond .ne 9, 3) := by decide +kernel
theorem dL_act_895 : decode cL_act 895 = .ok (.sipush 991, 3) := by decide +kernel
theorem dL_act_898 : decode cL_act 898 = .ok (.goto 5, 3) := by decide +kernel
theorem dL_act_901 : decode cL_act 901 = .ok (.bipush 90, 2) := by decide +kernel
theorem dL_act_903 : decode cL_act 903 = .ok (.invokestatic 54, 3) := by decide +kernel
theorem dL_act_906 : decode cL_act 906 = .ok (.iadd, 1) := by decide +kernel
theorem dL_act_907 : decode cL_act 907 = .ok (.goto 28, 3) := by decide +kernel
theorem dL_act_910 : decode cL_act 910 = .ok (.iload 12, 2) := by decide +kernel
theorem dL_act_912 : decode cL_act 912 = .ok (.iconst 2, 1) := by decide +kernel
theorem dL_act_913 : decode cL_act 913 = .ok (.if_icmp .ne 14, 3) := by decide +kernel
theorem dL_act_916 : decode cL_act 916 = .ok (.iload_n 3, 1) := by decide +kernel
theorem dL_act_917 : decode cL_act 917 = .ok (.iconst 3, 1) := by decide +kernel
theorem dL_act_918 : decode cL_act 918 = .ok (.ishr, 1) := by decide +kernel
theorem dL_act_919 : decode cL_act 919 = .ok (.bipush 51, 2) := by decide +kernel
theorem dL_act_921 : decode cL_act 921 = .ok (.invokestatic 54, 3) := by decide +kernel
theorem dL_act_924 : decode cL_act 924 = .ok (.goto 11, 3) := by decide +kernel
theorem dL_act_927 : decode cL_act 927 = .ok (.iload_n 3, 1) := by decide +kernel
theorem dL_act_928 : decode cL_act 928 = .ok (.iconst 3, 1) := by decide +kernel
theorem dL_act_929 : decode cL_act 929 = .ok (.ishr, 1) := by decide +kernel
theorem dL_act_930 : decode cL_act 930 = .ok (.bipush 10, 2) := by decide +kernel
theorem dL_act_932 : decode cL_act 932 = .ok (.invokestatic 54, 3) := by decide +kernel
theorem dL_act_935 : decode cL_act 935 = .ok (.iastore, 1) := by decide +kernel
theorem dL_act_936 : decode cL_act 936 = .ok (.aload_n 0, 1) := by decide +kernel
theorem dL_act_937 : decode cL_act 937 = .ok (.iload 12, 2) := by decide +kernel
theorem dL_act_939 : decode cL_act 939 = .ok (.aload 7, 2) := by decide +kernel
theorem dL_act_941 : decode cL_act 941 = .ok (.iload 12, 2) := by decide +kernel
theorem dL_act_943 : decode cL_act 943 = .ok (.iaload, 1) := by decide +kernel
theorem dL_act_944 : decode cL_act 944 = .ok (.invokevirtual 113, 3) := by decide +kernel
theorem dL_act_947 : decode cL_act 947 = .ok (.iload 13, 2) := by decide +kernel
theorem dL_act_949 : decode cL_act 949 = .ok (.if_icmp .ne 7, 3) := by decide +kernel
theorem dL_act_952 : decode cL_act 952 = .ok (.iconst 1, 1) := by decide +kernel
theorem dL_act_953 : decode cL_act 953 = .ok (.goto 4, 3) := by decide +kernel
theorem dL_act_956 : decode cL_act 956 = .ok (.iconst 0, 1) := by decide +kernel
theorem dL_act_957 : decode cL_act 957 = .ok (.ireturn, 1) := by decide +kernel
set_option maxRecDepth 20000 in
theorem ggL_law_X5_init : GoodIn wsL_law wsX5_init := goodIn_r _ [7, 8, 9, 10, 11, 12, 13, 14, 15, 16, 17, 18, 19, 20, 21, 22, 23, 24, 25, 26, 27, 28, 29, 30, 31, 32, 33, 34, 35, 36, 3, 37, 38, 39, 40, 41, 42, 43, 44, 45, 46, 47, 48, 49, 50, 51, 52, 53, 54, 55, 56, 57, 58, 59, 401, 402, 403, 404, 405, 406, 397, 398, 399, 400, 407, 408, 409, 410, 411, 412, 413, 414] (by decide +kernel) (by decide +kernel)
set_option maxRecDepth 20000 in
theorem gL_law_X5_init : GoodIn wsL_law (wsX5_init) := ggL_law_X5_init
set_option maxRecDepth 20000 in
set_option maxRecDepth 20000 in
theorem ggL_law_L_told_r1_0 : GoodIn wsL_law ([Cond.methodLink RL 68 yL_toldJar, Cond.static yL_toldJar, Cond.initialized RL] : List Cond) := goodIn_r _ [64, 65, 62] (by decide +kernel) (by decide +kernel)
set_option maxRecDepth 100000 in
theorem ggL_law_L_told_r1_1 : Cond.code yL_toldJar cL_toldJar 12 (some .boolean) ∈ wsL_law := List.mem_append_left _ (List.mem_append_left _ (List.mem_append_left _ (List.mem_append_left _ (List.mem_append_left _ (List.mem_append_left _ (List.mem_append_left _ (List.mem_append_left _ (List.mem_append_left _ (List.mem_append_left _ (List.mem_append_right _ (List.mem_append_right _ (List.mem_append_left _ (List.mem_of_getElem? (l := wsL_law0_r3) (i := 18) rfl)))))))))))))
set_option maxRecDepth 20000 in
theorem ggL_law_L_told_r1_2 : GoodIn wsL_law ([Cond.arrayClass .int, Cond.methodLink RL 35 yX5_slice, Cond.instanceMethod yX5_slice, Cond.selects RX5 yX5_slice yX5_slice, Cond.initialized RX5, Cond.code yX5_slice cX5_slice 4 (some .int), Cond.fieldLink RX5 12 "SettlingJars" "now" "LSettlingJars$State;", Cond.fieldLink RX5 71 "SettlingJars$State" "jars" "[LSettlingJars$Jar;", Cond.fieldLink RX5 58 "SettlingJars$State" "settings" "LSettlingJars$Settings;", Cond.methodLink RX5 68 yX5_needSlice, Cond.static yX5_needSlice, Cond.code yX5_needSlice cX5_needSlice 2 none, Cond.methodLink RX5 37 yX5_needIndex, Cond.static yX5_needIndex, Cond.code yX5_needIndex cX5_needIndex 2 none, Cond.classLink RX5 253 "java/lang/IndexOutOfBoundsException", Cond.initialized "java/lang/IndexOutOfBoundsException", Cond.methodLink RX5 50 yX5_needRange, Cond.static yX5_needRange, Cond.code yX5_needRange cX5_needRange 3 none] : List Cond) := goodIn_r _ [3, 67, 68, 69, 2, 70, 14, 71, 72, 73, 74, 75, 76, 77, 78, 79, 80, 81, 82, 83] (by decide +kernel) (by decide +kernel)
theorem ggL_law_L_told_r1 : GoodIn wsL_law wsL_told_r1 := by
  show GoodIn wsL_law (([Cond.methodLink RL 68 yL_toldJar, Cond.static yL_toldJar, Cond.initialized RL] : List Cond) ++ (Cond.code yL_toldJar cL_toldJar 12 (some .boolean) :: (([Cond.arrayClass .int, Cond.methodLink RL 35 yX5_slice, Cond.instanceMethod yX5_slice, Cond.selects RX5 yX5_slice yX5_slice, Cond.initialized RX5, Cond.code yX5_slice cX5_slice 4 (some .int), Cond.fieldLink RX5 12 "SettlingJars" "now" "LSettlingJars$State;", Cond.fieldLink RX5 71 "SettlingJars$State" "jars" "[LSettlingJars$Jar;", Cond.fieldLink RX5 58 "SettlingJars$State" "settings" "LSettlingJars$Settings;", Cond.methodLink RX5 68 yX5_needSlice, Cond.static yX5_needSlice, Cond.code yX5_needSlice cX5_needSlice 2 none, Cond.methodLink RX5 37 yX5_needIndex, Cond.static yX5_needIndex, Cond.code yX5_needIndex cX5_needIndex 2 none, Cond.classLink RX5 253 "java/lang/IndexOutOfBoundsException", Cond.initialized "java/lang/IndexOutOfBoundsException", Cond.methodLink RX5 50 yX5_needRange, Cond.static yX5_needRange, Cond.code yX5_needRange cX5_needRange 3 none] : List Cond))))
  exact goodIn_app ggL_law_L_told_r1_0 (goodIn_k ggL_law_L_told_r1_1 rfl (ggL_law_L_told_r1_2))
set_option maxRecDepth 20000 in
theorem ggL_law_L_told_r2 : GoodIn wsL_law wsL_told_r2 := goodIn_r _ [84, 85, 86, 87, 88, 25, 89, 90, 91, 92, 93, 94, 95, 96, 97, 47, 98, 99, 100, 33, 101, 42, 102, 103] (by decide +kernel) (by decide +kernel)
set_option maxRecDepth 20000 in
theorem ggL_law_L_told_r3 : GoodIn wsL_law wsL_told_r3 := goodIn_r _ [104, 105, 106, 107, 108, 109, 110, 111, 112, 113, 114, 115, 116, 117, 118, 119, 120, 121, 122, 123, 124, 125, 126, 127] (by decide +kernel) (by decide +kernel)
set_option maxRecDepth 20000 in
theorem ggL_law_L_told_r4 : GoodIn wsL_law wsL_told_r4 := goodIn_r _ [128, 129, 130, 131, 132, 133, 134, 43, 135, 136, 137, 138, 139, 140, 141, 142, 143, 144, 145, 146, 147, 148, 149, 150] (by decide +kernel) (by decide +kernel)
set_option maxRecDepth 20000 in
theorem ggL_law_L_told_r5 : GoodIn wsL_law wsL_told_r5 := goodIn_r _ [151, 152, 153, 154, 155, 156, 157, 158, 159, 160, 161, 162, 163, 164, 165, 166, 167, 168, 169, 170, 171, 172, 173, 174] (by decide +kernel) (by decide +kernel)
set_option maxRecDepth 20000 in
theorem ggL_law_L_told_r6_0 : GoodIn wsL_law ([Cond.methodLink RX2 79 yX2_bedSlices, Cond.instanceMethod yX2_bedSlices, Cond.selects RX2 yX2_bedSlices yX2_bedSlices, Cond.code yX2_bedSlices cX2_bedSlices 3 (some .int), Cond.methodLink RX2 82 yX2_clearWater, Cond.instanceMethod yX2_clearWater, Cond.selects RX2 yX2_clearWater yX2_clearWater, Cond.code yX2_clearWater cX2_clearWater 3 (some .int), Cond.methodLink RX2 85 yX2_changesOfLeader, Cond.instanceMethod yX2_changesOfLeader, Cond.selects RX2 yX2_changesOfLeader yX2_changesOfLeader, Cond.code yX2_changesOfLeader cX2_changesOfLeader 5 (some .int), Cond.methodLink RX2 88 yX2_isAtRest, Cond.instanceMethod yX2_isAtRest, Cond.selects RX2 yX2_isAtRest yX2_isAtRest, Cond.code yX2_isAtRest cX2_isAtRest 4 (some .boolean), Cond.methodLink RX2 61 yX2_reasonToStay, Cond.methodLink RX2 92 yX2_allOf, Cond.instanceMethod yX2_allOf, Cond.selects RX2 yX2_allOf yX2_allOf, Cond.code yX2_allOf cX2_allOf 4 (some .int), Cond.methodLink RL 51 yL_prop, Cond.static yL_prop] : List Cond) := goodIn_r _ [175, 176, 177, 178, 179, 180, 181, 182, 183, 184, 185, 186, 187, 188, 189, 190, 191, 192, 193, 194, 195, 196, 197] (by decide +kernel) (by decide +kernel)
set_option maxRecDepth 100000 in
theorem ggL_law_L_told_r6_1 : Cond.code yL_prop cL_prop 9 (some .int) ∈ wsL_law := List.mem_append_left _ (List.mem_append_left _ (List.mem_append_left _ (List.mem_append_left _ (List.mem_append_left _ (List.mem_append_left _ (List.mem_append_left _ (List.mem_append_left _ (List.mem_append_left _ (List.mem_append_left _ (List.mem_append_right _ (List.mem_append_right _ (List.mem_append_right _ (List.mem_append_right _ (List.mem_append_right _ (List.mem_append_right _ (List.mem_append_right _ (List.mem_append_right _ (List.mem_append_left _ (List.mem_of_getElem? (l := wsL_law0_r9) (i := 6) rfl)))))))))))))))))))
set_option maxRecDepth 20000 in
theorem ggL_law_L_told_r6_2 : GoodIn wsL_law ([] : List Cond) := goodIn_r _ [] (by decide +kernel) (by decide +kernel)
theorem ggL_law_L_told_r6 : GoodIn wsL_law wsL_told_r6 := by
  show GoodIn wsL_law (([Cond.methodLink RX2 79 yX2_bedSlices, Cond.instanceMethod yX2_bedSlices, Cond.selects RX2 yX2_bedSlices yX2_bedSlices, Cond.code yX2_bedSlices cX2_bedSlices 3 (some .int), Cond.methodLink RX2 82 yX2_clearWater, Cond.instanceMethod yX2_clearWater, Cond.selects RX2 yX2_clearWater yX2_clearWater, Cond.code yX2_clearWater cX2_clearWater 3 (some .int), Cond.methodLink RX2 85 yX2_changesOfLeader, Cond.instanceMethod yX2_changesOfLeader, Cond.selects RX2 yX2_changesOfLeader yX2_changesOfLeader, Cond.code yX2_changesOfLeader cX2_changesOfLeader 5 (some .int), Cond.methodLink RX2 88 yX2_isAtRest, Cond.instanceMethod yX2_isAtRest, Cond.selects RX2 yX2_isAtRest yX2_isAtRest, Cond.code yX2_isAtRest cX2_isAtRest 4 (some .boolean), Cond.methodLink RX2 61 yX2_reasonToStay, Cond.methodLink RX2 92 yX2_allOf, Cond.instanceMethod yX2_allOf, Cond.selects RX2 yX2_allOf yX2_allOf, Cond.code yX2_allOf cX2_allOf 4 (some .int), Cond.methodLink RL 51 yL_prop, Cond.static yL_prop] : List Cond) ++ (Cond.code yL_prop cL_prop 9 (some .int) :: (([] : List Cond))))
  exact goodIn_app ggL_law_L_told_r6_0 (goodIn_k ggL_law_L_told_r6_1 rfl (ggL_law_L_told_r6_2))
set_option maxRecDepth 20000 in
theorem ggL_law_L_told_r7 : GoodIn wsL_law wsL_told_r7 := goodIn_r _ [199, 200, 201, 202, 203, 204, 205, 206, 207, 208, 209, 210, 211, 212, 213, 214, 215, 216, 217, 218, 219, 220, 221, 222] (by decide +kernel) (by decide +kernel)
set_option maxRecDepth 20000 in
theorem ggL_law_L_told_r8 : GoodIn wsL_law wsL_told_r8 := goodIn_r _ [223, 224, 225, 226, 227, 228, 229, 230, 231, 232, 233, 234, 235, 236, 237, 238, 239, 13, 240, 36, 241, 242, 243, 244] (by decide +kernel) (by decide +kernel)
set_option maxRecDepth 20000 in
theorem ggL_law_L_told_r9 : GoodIn wsL_law wsL_told_r9 := goodIn_r _ [245, 246, 247, 18, 248, 249, 250, 251, 252, 253, 254, 255, 256, 34, 257, 258, 259, 260, 261, 262, 263, 264, 265, 266] (by decide +kernel) (by decide +kernel)
set_option maxRecDepth 20000 in
theorem ggL_law_L_told_r10 : GoodIn wsL_law wsL_told_r10 := goodIn_r _ [267, 268, 269, 270, 271, 17, 272, 273] (by decide +kernel) (by decide +kernel)
set_option maxRecDepth 20000 in
theorem ggL_law_L_told_wsX50 : GoodIn wsL_law wsX50 := goodIn_r _ [397, 398, 399, 400] (by decide +kernel) (by decide +kernel)
set_option maxRecDepth 20000 in
theorem ggL_law_L_told_wsX40 : GoodIn wsL_law wsX40 := goodIn_r _ [401, 402, 403, 404, 405, 406] (by decide +kernel) (by decide +kernel)
set_option maxRecDepth 20000 in
theorem ggL_law_L_told_wsX20 : GoodIn wsL_law wsX20 := goodIn_r _ [412] (by decide +kernel) (by decide +kernel)
set_option maxRecDepth 20000 in
theorem ggL_law_L_told_wsX30 : GoodIn wsL_law wsX30 := goodIn_r _ [413, 414] (by decide +kernel) (by decide +kernel)
set_option maxRecDepth 20000 in
theorem ggL_law_L_told_wsX10 : GoodIn wsL_law wsX10 := goodIn_r _ [407, 408, 409] (by decide +kernel) (by decide +kernel)
set_option maxRecDepth 100000 in
theorem ggL_law_L_told_hd : Cond.code yL_told cL_told 11 (some .boolean) ∈ wsL_law := List.mem_append_left _ (List.mem_append_left _ (List.mem_append_left _ (List.mem_append_left _ (List.mem_append_left _ (List.mem_append_left _ (List.mem_append_left _ (List.mem_append_left _ (List.mem_append_left _ (List.mem_append_left _ (List.mem_append_right _ (List.mem_append_right _ (List.mem_append_left _ (List.mem_of_getElem? (l := wsL_law0_r3) (i := 15) rfl)))))))))))))
set_option maxRecDepth 20000 in
theorem ggL_law_L_told : GoodIn wsL_law wsL_told := goodIn_ca (goodIn_ca (goodIn_k ggL_law_L_told_hd rfl (goodIn_app (goodIn_app (goodIn_app (goodIn_app (goodIn_app (goodIn_app ggL_law_L_told_r1 (goodIn_app ggL_law_L_told_r2 (goodIn_app ggL_law_L_told_r3 (goodIn_app ggL_law_L_told_r4 (goodIn_app ggL_law_L_told_r5 (goodIn_app ggL_law_L_told_r6 (goodIn_app ggL_law_L_told_r7 (goodIn_app ggL_law_L_told_r8 (goodIn_app ggL_law_L_told_r9 ggL_law_L_told_r10))))))))) ggL_law_L_told_wsX50) ggL_law_L_told_wsX40) ggL_law_L_told_wsX20) ggL_law_L_told_wsX30) ggL_law_L_told_wsX10)) (goodIn_sub (fun _ h => List.mem_append_left _ (List.mem_append_left _ (List.mem_append_right _ h))) (by decide +kernel))) (goodIn_sub (fun _ h => List.mem_append_left _ (List.mem_append_right _ h)) (by decide +kernel))
set_option maxRecDepth 20000 in
theorem gL_law_L_told : GoodIn wsL_law (va_wsS RL 117 yL_told wsL_told) := goodIn_app (goodIn_of _ (by decide +kernel)) ggL_law_L_told
set_option maxRecDepth 20000 in
theorem ggL_law_X5_count : GoodIn wsL_law wsX5_count := goodIn_ca (goodIn_r _ [245, 14, 246, 247, 18, 81, 82, 2, 83, 84, 85, 248, 249, 250, 13, 251, 36, 252, 168, 169, 25, 170, 171, 172, 173, 174, 90, 91, 92, 93, 94, 95, 96, 97, 47, 253, 254, 255, 256, 34, 257, 258, 259, 260, 98, 99, 100, 33, 101, 42, 261, 262, 263, 264, 265, 266, 267, 268, 102, 103, 104, 105, 269, 270, 271, 17, 272, 273, 397, 398, 399, 400, 401, 402, 403, 404, 405, 406, 412, 413, 414, 407, 408, 409] (by decide +kernel) (by decide +kernel)) (goodIn_sub (fun _ h => List.mem_append_left _ (List.mem_append_right _ h)) (by decide +kernel))
set_option maxRecDepth 20000 in
theorem gL_law_X5_count : GoodIn wsL_law (wsV RL 79 RX5 yX5_count wsX5_count) := goodIn_app (goodIn_of _ (by decide +kernel)) ggL_law_X5_count
set_option maxRecDepth 20000 in
theorem ggL_law_L_cell : GoodIn wsL_law wsL_cell := goodIn_r _ [276, 277] (by decide +kernel) (by decide +kernel)
set_option maxRecDepth 20000 in
theorem gL_law_L_cell : GoodIn wsL_law (va_wsS RL 121 yL_cell wsL_cell) := goodIn_app (goodIn_of _ (by decide +kernel)) ggL_law_L_cell
set_option maxRecDepth 20000 in
theorem ggL_law_L_at : GoodIn wsL_law wsL_at := goodIn_r _ [204] (by decide +kernel) (by decide +kernel)
set_option maxRecDepth 20000 in
theorem gL_law_L_at : GoodIn wsL_law (va_wsS RL 54 yL_at wsL_at) := goodIn_app (goodIn_of _ (by decide +kernel)) ggL_law_L_at
set_option maxRecDepth 20000 in
set_option maxRecDepth 20000 in
theorem ggL_law_L_act_r1 : GoodIn wsL_law wsL_act_r1 := goodIn_r _ [202, 203, 62, 204, 199, 200, 201, 281, 282, 283, 2, 284, 14, 71, 18, 234, 73, 74, 75, 76, 77, 78, 79, 80] (by decide +kernel) (by decide +kernel)
set_option maxRecDepth 20000 in
theorem ggL_law_L_act_r2 : GoodIn wsL_law wsL_act_r2 := goodIn_r _ [81, 82, 83, 84, 85, 285, 286, 287, 288, 289, 217, 168, 169, 25, 170, 171, 172, 173, 174, 90, 91, 92, 93, 94] (by decide +kernel) (by decide +kernel)
set_option maxRecDepth 20000 in
theorem ggL_law_L_act_r3 : GoodIn wsL_law wsL_act_r3 := goodIn_r _ [95, 96, 97, 47, 290, 291, 292, 17, 293, 53, 294, 273, 295, 296, 297, 13, 298, 34, 36, 37, 299, 300, 301, 302] (by decide +kernel) (by decide +kernel)
set_option maxRecDepth 20000 in
theorem ggL_law_L_act_r4 : GoodIn wsL_law wsL_act_r4 := goodIn_r _ [38, 303, 304, 305, 306, 307, 33, 308, 42, 309, 43, 310, 311, 312, 313, 314, 315, 316, 317, 318, 319, 145, 146, 147] (by decide +kernel) (by decide +kernel)
set_option maxRecDepth 20000 in
theorem ggL_law_L_act_r5 : GoodIn wsL_law wsL_act_r5 := goodIn_r _ [222, 223, 224, 148, 149, 150, 151, 152, 153, 154, 155, 142, 143, 144, 320, 321, 322, 323, 246, 72, 247, 324, 325, 326] (by decide +kernel) (by decide +kernel)
set_option maxRecDepth 20000 in
theorem ggL_law_L_act_r6 : GoodIn wsL_law wsL_act_r6 := goodIn_r _ [327, 328, 329, 330, 331, 332, 333, 334, 335, 336, 137, 117, 138, 110, 111, 112, 113, 114, 115, 116, 118, 119, 120, 121] (by decide +kernel) (by decide +kernel)
set_option maxRecDepth 20000 in
theorem ggL_law_L_act_r7 : GoodIn wsL_law wsL_act_r7 := goodIn_r _ [122, 131, 132, 133, 134, 135, 136, 337, 338, 339, 340, 341, 342, 343, 344, 345, 346, 347, 348, 349, 235, 350, 351, 352] (by decide +kernel) (by decide +kernel)
set_option maxRecDepth 20000 in
theorem ggL_law_L_act_r8 : GoodIn wsL_law wsL_act_r8 := goodIn_r _ [353, 354, 355, 356, 357, 358, 359, 360, 361, 362, 363, 364, 365, 366, 367, 368, 258, 259, 260, 98, 99, 100, 101, 369] (by decide +kernel) (by decide +kernel)
set_option maxRecDepth 20000 in
theorem ggL_law_L_act_r9 : GoodIn wsL_law wsL_act_r9 := goodIn_r _ [370, 371, 372, 236, 373, 374, 375, 376, 377, 378, 229] (by decide +kernel) (by decide +kernel)
set_option maxRecDepth 20000 in
theorem ggL_law_L_act_wsX50 : GoodIn wsL_law wsX50 := goodIn_r _ [397, 398, 399, 400] (by decide +kernel) (by decide +kernel)
set_option maxRecDepth 20000 in
theorem ggL_law_L_act_wsX40 : GoodIn wsL_law wsX40 := goodIn_r _ [401, 402, 403, 404, 405, 406] (by decide +kernel) (by decide +kernel)
set_option maxRecDepth 20000 in
theorem ggL_law_L_act_wsX20 : GoodIn wsL_law wsX20 := goodIn_r _ [412] (by decide +kernel) (by decide +kernel)
set_option maxRecDepth 20000 in
theorem ggL_law_L_act_wsX10 : GoodIn wsL_law wsX10 := goodIn_r _ [407, 408, 409] (by decide +kernel) (by decide +kernel)
set_option maxRecDepth 20000 in
theorem ggL_law_L_act_wsX30 : GoodIn wsL_law wsX30 := goodIn_r _ [413, 414] (by decide +kernel) (by decide +kernel)
set_option maxRecDepth 100000 in
theorem ggL_law_L_act_hd : Cond.code yL_act cL_act 18 (some .boolean) ∈ wsL_law := List.mem_append_left _ (List.mem_append_left _ (List.mem_append_left _ (List.mem_append_left _ (List.mem_append_left _ (List.mem_append_left _ (List.mem_append_left _ (List.mem_append_left _ (List.mem_append_left _ (List.mem_append_left _ (List.mem_append_right _ (List.mem_append_right _ (List.mem_append_right _ (List.mem_append_right _ (List.mem_append_right _ (List.mem_append_right _ (List.mem_append_right _ (List.mem_append_right _ (List.mem_append_right _ (List.mem_append_right _ (List.mem_append_right _ (List.mem_append_left _ (List.mem_of_getElem? (l := wsL_law0_r12) (i := 16) rfl))))))))))))))))))))))
set_option maxRecDepth 20000 in
theorem ggL_law_L_act : GoodIn wsL_law wsL_act := goodIn_ca (goodIn_ca (goodIn_ca (goodIn_k ggL_law_L_act_hd rfl (goodIn_app (goodIn_app (goodIn_app (goodIn_app (goodIn_app (goodIn_app ggL_law_L_act_r1 (goodIn_app ggL_law_L_act_r2 (goodIn_app ggL_law_L_act_r3 (goodIn_app ggL_law_L_act_r4 (goodIn_app ggL_law_L_act_r5 (goodIn_app ggL_law_L_act_r6 (goodIn_app ggL_law_L_act_r7 (goodIn_app ggL_law_L_act_r8 ggL_law_L_act_r9)))))))) ggL_law_L_act_wsX50) ggL_law_L_act_wsX40) ggL_law_L_act_wsX20) ggL_law_L_act_wsX10) ggL_law_L_act_wsX30)) (goodIn_sub (fun _ h => List.mem_append_left _ (List.mem_append_left _ (List.mem_append_right _ h))) (by decide +kernel))) (goodIn_sub (fun _ h => List.mem_append_left _ (List.mem_append_right _ h)) (by decide +kernel))) (goodIn_sub (fun _ h => List.mem_append_right _ h) (by decide +kernel))
set_option maxRecDepth 20000 in
theorem gL_law_L_act : GoodIn wsL_law (va_wsS RL 125 yL_act wsL_act) := goodIn_app (goodIn_of _ (by decide +kernel)) ggL_law_L_act
set_option maxRecDepth 20000 in
set_option maxRecDepth 20000 in
theorem ggL_law_L_ahead_r1 : GoodIn wsL_law wsL_ahead_r1 := goodIn_r _ [3, 202, 203, 62, 204, 222, 223, 224, 148, 149, 150, 151, 145, 146, 147, 152, 153, 154, 155, 142, 143, 144, 382, 383] (by decide +kernel) (by decide +kernel)
set_option maxRecDepth 20000 in
theorem ggL_law_L_ahead_r2 : GoodIn wsL_law wsL_ahead_r2 := goodIn_r _ [384, 2, 385, 26, 14, 71, 72, 76, 77, 78, 79, 80, 81, 82, 83, 84, 85, 386, 311, 312, 25, 313, 47, 314] (by decide +kernel) (by decide +kernel)
set_option maxRecDepth 20000 in
theorem ggL_law_L_ahead_r3 : GoodIn wsL_law wsL_ahead_r3 := goodIn_r _ [300, 301, 302, 324, 325, 326, 327, 328, 329, 330, 331, 332, 333, 334, 335, 336, 137, 117, 138, 90, 91, 92, 93, 94] (by decide +kernel) (by decide +kernel)
set_option maxRecDepth 20000 in
theorem ggL_law_L_ahead_r4 : GoodIn wsL_law wsL_ahead_r4 := goodIn_r _ [95, 96, 97, 110, 111, 112, 33, 113, 114, 42, 115, 116, 118, 119, 120, 121, 122, 131, 132, 133, 134, 43, 135, 136] (by decide +kernel) (by decide +kernel)
set_option maxRecDepth 20000 in
theorem ggL_law_L_ahead_r5 : GoodIn wsL_law wsL_ahead_r5 := goodIn_r _ [337, 316, 317, 318, 163, 164, 165, 166, 167, 168, 169, 170, 171, 172, 173, 174, 175, 176, 177, 178, 98, 99, 100, 101] (by decide +kernel) (by decide +kernel)
set_option maxRecDepth 20000 in
theorem ggL_law_L_ahead_r6 : GoodIn wsL_law wsL_ahead_r6 := goodIn_r _ [179, 180, 181, 182, 102, 103, 104, 105, 183, 184, 185, 186, 106, 107, 108, 109, 187, 188, 189, 190, 191, 128, 129, 130] (by decide +kernel) (by decide +kernel)
set_option maxRecDepth 20000 in
theorem ggL_law_L_ahead_r7_0 : GoodIn wsL_law ([Cond.methodLink RX2 92 yX2_allOf, Cond.instanceMethod yX2_allOf, Cond.selects RX2 yX2_allOf yX2_allOf, Cond.code yX2_allOf cX2_allOf 4 (some .int), Cond.methodLink RL 51 yL_prop, Cond.static yL_prop] : List Cond) := goodIn_r _ [192, 193, 194, 195, 196, 197] (by decide +kernel) (by decide +kernel)
set_option maxRecDepth 100000 in
theorem ggL_law_L_ahead_r7_1 : Cond.code yL_prop cL_prop 9 (some .int) ∈ wsL_law := List.mem_append_left _ (List.mem_append_left _ (List.mem_append_left _ (List.mem_append_left _ (List.mem_append_left _ (List.mem_append_left _ (List.mem_append_left _ (List.mem_append_left _ (List.mem_append_left _ (List.mem_append_left _ (List.mem_append_right _ (List.mem_append_right _ (List.mem_append_right _ (List.mem_append_right _ (List.mem_append_right _ (List.mem_append_right _ (List.mem_append_right _ (List.mem_append_right _ (List.mem_append_left _ (List.mem_of_getElem? (l := wsL_law0_r9) (i := 6) rfl)))))))))))))))))))
set_option maxRecDepth 20000 in
theorem ggL_law_L_ahead_r7_2 : GoodIn wsL_law ([Cond.methodLink RL 28 yL_sum, Cond.static yL_sum, Cond.code yL_sum cL_sum 5 (some .int), Cond.methodLink RL 32 yL_leading, Cond.static yL_leading, Cond.code yL_leading cL_leading 4 (some .int), Cond.methodLink RL 85 yX5_clearIn, Cond.instanceMethod yX5_clearIn, Cond.selects RX5 yX5_clearIn yX5_clearIn, Cond.code yX5_clearIn cX5_clearIn 4 (some .int), Cond.methodLink RX5 200 yX2_clearWater, Cond.methodLink RX5 203 yX2_goOneStep, Cond.methodLink RL 88 yX5_restIn, Cond.instanceMethod yX5_restIn, Cond.selects RX5 yX5_restIn yX5_restIn, Cond.code yX5_restIn cX5_restIn 3 (some .int)] : List Cond) := goodIn_r _ [199, 200, 201, 156, 157, 158, 387, 388, 389, 390, 391, 392, 393, 394, 395, 396] (by decide +kernel) (by decide +kernel)
theorem ggL_law_L_ahead_r7 : GoodIn wsL_law wsL_ahead_r7 := by
  show GoodIn wsL_law (([Cond.methodLink RX2 92 yX2_allOf, Cond.instanceMethod yX2_allOf, Cond.selects RX2 yX2_allOf yX2_allOf, Cond.code yX2_allOf cX2_allOf 4 (some .int), Cond.methodLink RL 51 yL_prop, Cond.static yL_prop] : List Cond) ++ (Cond.code yL_prop cL_prop 9 (some .int) :: (([Cond.methodLink RL 28 yL_sum, Cond.static yL_sum, Cond.code yL_sum cL_sum 5 (some .int), Cond.methodLink RL 32 yL_leading, Cond.static yL_leading, Cond.code yL_leading cL_leading 4 (some .int), Cond.methodLink RL 85 yX5_clearIn, Cond.instanceMethod yX5_clearIn, Cond.selects RX5 yX5_clearIn yX5_clearIn, Cond.code yX5_clearIn cX5_clearIn 4 (some .int), Cond.methodLink RX5 200 yX2_clearWater, Cond.methodLink RX5 203 yX2_goOneStep, Cond.methodLink RL 88 yX5_restIn, Cond.instanceMethod yX5_restIn, Cond.selects RX5 yX5_restIn yX5_restIn, Cond.code yX5_restIn cX5_restIn 3 (some .int)] : List Cond))))
  exact goodIn_app ggL_law_L_ahead_r7_0 (goodIn_k ggL_law_L_ahead_r7_1 rfl (ggL_law_L_ahead_r7_2))
set_option maxRecDepth 20000 in
theorem ggL_law_L_ahead_wsX50 : GoodIn wsL_law wsX50 := goodIn_r _ [397, 398, 399, 400] (by decide +kernel) (by decide +kernel)
set_option maxRecDepth 20000 in
theorem ggL_law_L_ahead_wsX40 : GoodIn wsL_law wsX40 := goodIn_r _ [401, 402, 403, 404, 405, 406] (by decide +kernel) (by decide +kernel)
set_option maxRecDepth 20000 in
theorem ggL_law_L_ahead_wsX20 : GoodIn wsL_law wsX20 := goodIn_r _ [412] (by decide +kernel) (by decide +kernel)
set_option maxRecDepth 20000 in
theorem ggL_law_L_ahead_wsX30 : GoodIn wsL_law wsX30 := goodIn_r _ [413, 414] (by decide +kernel) (by decide +kernel)
set_option maxRecDepth 100000 in
theorem ggL_law_L_ahead_hd : Cond.code yL_ahead cL_ahead 13 (some .boolean) ∈ wsL_law := List.mem_append_left _ (List.mem_append_left _ (List.mem_append_left _ (List.mem_append_left _ (List.mem_append_left _ (List.mem_append_left _ (List.mem_append_left _ (List.mem_append_left _ (List.mem_append_left _ (List.mem_append_left _ (List.mem_append_right _ (List.mem_append_right _ (List.mem_append_right _ (List.mem_append_right _ (List.mem_append_right _ (List.mem_append_right _ (List.mem_append_right _ (List.mem_append_right _ (List.mem_append_right _ (List.mem_append_right _ (List.mem_append_right _ (List.mem_append_right _ (List.mem_append_right _ (List.mem_append_right _ (List.mem_append_right _ (List.mem_append_left _ (List.mem_of_getElem? (l := wsL_law0_r16) (i := 21) rfl))))))))))))))))))))))))))
set_option maxRecDepth 20000 in
theorem ggL_law_L_ahead : GoodIn wsL_law wsL_ahead := goodIn_ca (goodIn_ca (goodIn_k ggL_law_L_ahead_hd rfl (goodIn_app (goodIn_app (goodIn_app (goodIn_app (goodIn_app ggL_law_L_ahead_r1 (goodIn_app ggL_law_L_ahead_r2 (goodIn_app ggL_law_L_ahead_r3 (goodIn_app ggL_law_L_ahead_r4 (goodIn_app ggL_law_L_ahead_r5 (goodIn_app ggL_law_L_ahead_r6 ggL_law_L_ahead_r7)))))) ggL_law_L_ahead_wsX50) ggL_law_L_ahead_wsX40) ggL_law_L_ahead_wsX20) ggL_law_L_ahead_wsX30)) (goodIn_sub (fun _ h => List.mem_append_left _ (List.mem_append_left _ (List.mem_append_right _ h))) (by decide +kernel))) (goodIn_sub (fun _ h => List.mem_append_left _ (List.mem_append_right _ h)) (by decide +kernel))
set_option maxRecDepth 20000 in
theorem gL_law_L_ahead : GoodIn wsL_law (va_wsS RL 129 yL_ahead wsL_ahead) := goodIn_app (goodIn_of _ (by decide +kernel)) ggL_law_L_ahead
theorem dL_law_0 : decode cL_law 0 = .ok (.new 36, 3) := by decide +kernel
theorem dL_law_3 : decode cL_law 3 = .ok (.dup, 1) := by decide +kernel
theorem dL_law_4 : decode cL_law 4 = .ok (.invokespecial 116, 3) := by decide +kernel
theorem dL_law_7 : decode cL_law 7 = .ok (.astore_n 1, 1) := by decide +kernel
theorem dL_law_8 : decode cL_law 8 = .ok (.bipush 48, 2) := by decide +kernel
theorem dL_law_10 : decode cL_law 10 = .ok (.newarray .int, 2) := by decide +kernel
theorem dL_law_12 : decode cL_law 12 = .ok (.astore_n 2, 1) := by decide +kernel
theorem dL_law_13 : decode cL_law 13 = .ok (.bipush 48, 2) := by decide +kernel
theorem dL_law_15 : decode cL_law 15 = .ok (.newarray .int, 2) := by decide +kernel
theorem dL_law_17 : decode cL_law 17 = .ok (.astore_n 3, 1) := by decide +kernel
theorem dL_law_18 : decode cL_law 18 = .ok (.bipush 48, 2) := by decide +kernel
theorem dL_law_20 : decode cL_law 20 = .ok (.newarray .int, 2) := by decide +kernel
theorem dL_law_22 : decode cL_law 22 = .ok (.astore 4, 2) := by decide +kernel
theorem dL_law_24 : decode cL_law 24 = .ok (.bipush 16, 2) := by decide +kernel
theorem dL_law_26 : decode cL_law 26 = .ok (.newarray .int, 2) := by decide +kernel
theorem dL_law_28 : decode cL_law 28 = .ok (.astore 5, 2) := by decide +kernel
theorem dL_law_30 : decode cL_law 30 = .ok (.iconst 2, 1) := by decide +kernel
theorem dL_law_31 : decode cL_law 31 = .ok (.newarray .int, 2) := by decide +kernel
theorem dL_law_33 : decode cL_law 33 = .ok (.astore 6, 2) := by decide +kernel
theorem dL_law_35 : decode cL_law 35 = .ok (.aload 5, 2) := by decide +kernel
theorem dL_law_37 : decode cL_law 37 = .ok (.iconst 0, 1) := by decide +kernel
theorem dL_law_38 : decode cL_law 38 = .ok (.bipush 100, 2) := by decide +kernel
theorem dL_law_40 : decode cL_law 40 = .ok (.iastore, 1) := by decide +kernel
theorem dL_law_41 : decode cL_law 41 = .ok (.aload 5, 2) := by decide +kernel
theorem dL_law_43 : decode cL_law 43 = .ok (.iconst 1, 1) := by decide +kernel
theorem dL_law_44 : decode cL_law 44 = .ok (.sipush 200, 3) := by decide +kernel
theorem dL_law_47 : decode cL_law 47 = .ok (.iastore, 1) := by decide +kernel
theorem dL_law_48 : decode cL_law 48 = .ok (.aload 5, 2) := by decide +kernel
theorem dL_law_50 : decode cL_law 50 = .ok (.iconst 2, 1) := by decide +kernel
theorem dL_law_51 : decode cL_law 51 = .ok (.iconst 3, 1) := by decide +kernel
theorem dL_law_52 : decode cL_law 52 = .ok (.iastore, 1) := by decide +kernel
theorem dL_law_53 : decode cL_law 53 = .ok (.iconst 0, 1) := by decide +kernel
theorem dL_law_54 : decode cL_law 54 = .ok (.istore 7, 2) := by decide +kernel
theorem dL_law_56 : decode cL_law 56 = .ok (.iload 7, 2) := by decide +kernel
theorem dL_law_58 : decode cL_law 58 = .ok (.iconst 4, 1) := by decide +kernel
theorem dL_law_59 : decode cL_law 59 = .ok (.if_icmp .ge 21, 3) := by decide +kernel
theorem dL_law_62 : decode cL_law 62 = .ok (.aload 5, 2) := by decide +kernel
theorem dL_law_64 : decode cL_law 64 = .ok (.iconst 4, 1) := by decide +kernel
theorem dL_law_65 : decode cL_law 65 = .ok (.iload 7, 2) := by decide +kernel
theorem dL_law_67 : decode cL_law 67 = .ok (.iadd, 1) := by decide +kernel
theorem dL_law_68 : decode cL_law 68 = .ok (.bipush 40, 2) := by decide +kernel
theorem dL_law_70 : decode cL_law 70 = .ok (.iload 7, 2) := by decide +kernel
theorem dL_law_72 : decode cL_law 72 = .ok (.ishr, 1) := by decide +kernel
theorem dL_law_73 : decode cL_law 73 = .ok (.iastore, 1) := by decide +kernel
theorem dL_law_74 : decode cL_law 74 = .ok (.iinc 7 1, 3) := by decide +kernel
theorem dL_law_77 : decode cL_law 77 = .ok (.goto (-21), 3) := by decide +kernel
theorem dL_law_80 : decode cL_law 80 = .ok (.aload_n 1, 1) := by decide +kernel
theorem dL_law_81 : decode cL_law 81 = .ok (.iconst 0, 1) := by decide +kernel
theorem dL_law_82 : decode cL_law 82 = .ok (.aload_n 2, 1) := by decide +kernel
theorem dL_law_83 : decode cL_law 83 = .ok (.aload_n 3, 1) := by decide +kernel
theorem dL_law_84 : decode cL_law 84 = .ok (.aload 4, 2) := by decide +kernel
theorem dL_law_86 : decode cL_law 86 = .ok (.aload 5, 2) := by decide +kernel
theorem dL_law_88 : decode cL_law 88 = .ok (.aload 6, 2) := by decide +kernel
theorem dL_law_90 : decode cL_law 90 = .ok (.invokestatic 117, 3) := by decide +kernel
theorem dL_law_93 : decode cL_law 93 = .ok (.ifCond .eq 11, 3) := by decide +kernel
theorem dL_law_96 : decode cL_law 96 = .ok (.aload_n 1, 1) := by decide +kernel
theorem dL_law_97 : decode cL_law 97 = .ok (.iconst 5, 1) := by decide +kernel
theorem dL_law_98 : decode cL_law 98 = .ok (.invokevirtual 79, 3) := by decide +kernel
theorem dL_law_101 : decode cL_law 101 = .ok (.ifCond .eq 5, 3) := by decide +kernel
theorem dL_law_104 : decode cL_law 104 = .ok (.iconst 0, 1) := by decide +kernel
theorem dL_law_105 : decode cL_law 105 = .ok (.ireturn, 1) := by decide +kernel
theorem dL_law_106 : decode cL_law 106 = .ok (.iconst 0, 1) := by decide +kernel
theorem dL_law_107 : decode cL_law 107 = .ok (.istore 7, 2) := by decide +kernel
theorem dL_law_109 : decode cL_law 109 = .ok (.iload 7, 2) := by decide +kernel
theorem dL_law_111 : decode cL_law 111 = .ok (.bipush 18, 2) := by decide +kernel
theorem dL_law_113 : decode cL_law 113 = .ok (.if_icmp .ge 158, 3) := by decide +kernel
theorem dL_law_116 : decode cL_law 116 = .ok (.aload_n 0, 1) := by decide +kernel
theorem dL_law_117 : decode cL_law 117 = .ok (.iconst 2, 1) := by decide +kernel
theorem dL_law_118 : decode cL_law 118 = .ok (.iload 7, 2) := by decide +kernel
theorem dL_law_120 : decode cL_law 120 = .ok (.imul, 1) := by decide +kernel
theorem dL_law_121 : decode cL_law 121 = .ok (.invokestatic 121, 3) := by decide +kernel
theorem dL_law_124 : decode cL_law 124 = .ok (.ldc 124, 2) := by decide +kernel
theorem dL_law_126 : decode cL_law 126 = .ok (.iand, 1) := by decide +kernel
theorem dL_law_127 : decode cL_law 127 = .ok (.istore 8, 2) := by decide +kernel
theorem dL_law_129 : decode cL_law 129 = .ok (.aload_n 0, 1) := by decide +kernel
theorem dL_law_130 : decode cL_law 130 = .ok (.iconst 2, 1) := by decide +kernel
theorem dL_law_131 : decode cL_law 131 = .ok (.iload 7, 2) := by decide +kernel
theorem dL_law_133 : decode cL_law 133 = .ok (.imul, 1) := by decide +kernel
theorem dL_law_134 : decode cL_law 134 = .ok (.iconst 1, 1) := by decide +kernel
theorem dL_law_135 : decode cL_law 135 = .ok (.iadd, 1) := by decide +kernel
theorem dL_law_136 : decode cL_law 136 = .ok (.invokestatic 121, 3) := by decide +kernel
theorem dL_law_139 : decode cL_law 139 = .ok (.ldc 124, 2) := by decide +kernel
theorem dL_law_141 : decode cL_law 141 = .ok (.iand, 1) := by decide +kernel
theorem dL_law_142 : decode cL_law 142 = .ok (.istore 9, 2) := by decide +kernel
theorem dL_law_144 : decode cL_law 144 = .ok (.aload_n 1, 1) := by decide +kernel
theorem dL_law_145 : decode cL_law 145 = .ok (.iload 7, 2) := by decide +kernel
theorem dL_law_147 : decode cL_law 147 = .ok (.iconst 4, 1) := by decide +kernel
theorem dL_law_148 : decode cL_law 148 = .ok (.if_icmp .ge 7, 3) := by decide +kernel
theorem dL_law_151 : decode cL_law 151 = .ok (.iconst 0, 1) := by decide +kernel
theorem dL_law_152 : decode cL_law 152 = .ok (.goto 13, 3) := by decide +kernel
theorem dL_law_155 : decode cL_law 155 = .ok (.iload 8, 2) := by decide +kernel
theorem dL_law_157 : decode cL_law 157 = .ok (.bipush 13, 2) := by decide +kernel
theorem dL_law_159 : decode cL_law 159 = .ok (.ishr, 1) := by decide +kernel
theorem dL_law_160 : decode cL_law 160 = .ok (.bipush 15, 2) := by decide +kernel
theorem dL_law_162 : decode cL_law 162 = .ok (.invokestatic 54, 3) := by decide +kernel
theorem dL_law_165 : decode cL_law 165 = .ok (.iload 8, 2) := by decide +kernel
theorem dL_law_167 : decode cL_law 167 = .ok (.iload 9, 2) := by decide +kernel
theorem dL_law_169 : decode cL_law 169 = .ok (.aload_n 2, 1) := by decide +kernel
theorem dL_law_170 : decode cL_law 170 = .ok (.aload_n 3, 1) := by decide +kernel
theorem dL_law_171 : decode cL_law 171 = .ok (.aload 4, 2) := by decide +kernel
theorem dL_law_173 : decode cL_law 173 = .ok (.aload 5, 2) := by decide +kernel
theorem dL_law_175 : decode cL_law 175 = .ok (.aload 6, 2) := by decide +kernel
theorem dL_law_177 : decode cL_law 177 = .ok (.invokestatic 125, 3) := by decide +kernel
theorem dL_law_180 : decode cL_law 180 = .ok (.ifCond .eq 22, 3) := by decide +kernel
theorem dL_law_183 : decode cL_law 183 = .ok (.aload_n 1, 1) := by decide +kernel
theorem dL_law_184 : decode cL_law 184 = .ok (.iload 9, 2) := by decide +kernel
theorem dL_law_186 : decode cL_law 186 = .ok (.iconst 2, 1) := by decide +kernel
theorem dL_law_187 : decode cL_law 187 = .ok (.ishr, 1) := by decide +kernel
theorem dL_law_188 : decode cL_law 188 = .ok (.aload_n 2, 1) := by decide +kernel
theorem dL_law_189 : decode cL_law 189 = .ok (.aload_n 3, 1) := by decide +kernel
theorem dL_law_190 : decode cL_law 190 = .ok (.aload 4, 2) := by decide +kernel
theorem dL_law_192 : decode cL_law 192 = .ok (.aload 5, 2) := by decide +kernel
theorem dL_law_194 : decode cL_law 194 = .ok (.aload 6, 2) := by decide +kernel
theorem dL_law_196 : decode cL_law 196 = .ok (.invokestatic 117, 3) := by decide +kernel
theorem dL_law_199 : decode cL_law 199 = .ok (.ifCond .ne 5, 3) := by decide +kernel
theorem dL_law_202 : decode cL_law 202 = .ok (.iconst 0, 1) := by decide +kernel
theorem dL_law_203 : decode cL_law 203 = .ok (.ireturn, 1) := by decide +kernel
theorem dL_law_204 : decode cL_law 204 = .ok (.iload 9, 2) := by decide +kernel
theorem dL_law_206 : decode cL_law 206 = .ok (.iconst 4, 1) := by decide +kernel
theorem dL_law_207 : decode cL_law 207 = .ok (.ishr, 1) := by decide +kernel
theorem dL_law_208 : decode cL_law 208 = .ok (.iconst 3, 1) := by decide +kernel
theorem dL_law_209 : decode cL_law 209 = .ok (.invokestatic 54, 3) := by decide +kernel
theorem dL_law_212 : decode cL_law 212 = .ok (.istore 10, 2) := by decide +kernel
theorem dL_law_214 : decode cL_law 214 = .ok (.iload 7, 2) := by decide +kernel
theorem dL_law_216 : decode cL_law 216 = .ok (.bipush 6, 2) := by decide +kernel
theorem dL_law_218 : decode cL_law 218 = .ok (.irem, 1) := by decide +kernel
theorem dL_law_219 : decode cL_law 219 = .ok (.iconst 5, 1) := by decide +kernel
theorem dL_law_220 : decode cL_law 220 = .ok (.if_icmp .ne 45, 3) := by decide +kernel
theorem dL_law_223 : decode cL_law 223 = .ok (.aload_n 1, 1) := by decide +kernel
theorem dL_law_224 : decode cL_law 224 = .ok (.iload 10, 2) := by decide +kernel
theorem dL_law_226 : decode cL_law 226 = .ok (.iload 9, 2) := by decide +kernel
theorem dL_law_228 : decode cL_law 228 = .ok (.iconst 2, 1) := by decide +kernel
theorem dL_law_229 : decode cL_law 229 = .ok (.ishr, 1) := by decide +kernel
theorem dL_law_230 : decode cL_law 230 = .ok (.iload 8, 2) := by decide +kernel
theorem dL_law_232 : decode cL_law 232 = .ok (.iconst 2, 1) := by decide +kernel
theorem dL_law_233 : decode cL_law 233 = .ok (.ishr, 1) := by decide +kernel
theorem dL_law_234 : decode cL_law 234 = .ok (.iload 10, 2) := by decide +kernel
theorem dL_law_236 : decode cL_law 236 = .ok (.ifCond .ne 7, 3) := by decide +kernel
theorem dL_law_239 : decode cL_law 239 = .ok (.aload_n 2, 1) := by decide +kernel
theorem dL_law_240 : decode cL_law 240 = .ok (.goto 15, 3) := by decide +kernel
theorem dL_law_243 : decode cL_law 243 = .ok (.iload 10, 2) := by decide +kernel
theorem dL_law_245 : decode cL_law 245 = .ok (.iconst 1, 1) := by decide +kernel
theorem dL_law_246 : decode cL_law 246 = .ok (.if_icmp .ne 7, 3) := by decide +kernel
theorem dL_law_249 : decode cL_law 249 = .ok (.aload_n 3, 1) := by decide +kernel
theorem dL_law_250 : decode cL_law 250 = .ok (.goto 5, 3) := by decide +kernel
theorem dL_law_253 : decode cL_law 253 = .ok (.aload 4, 2) := by decide +kernel
theorem dL_law_255 : decode cL_law 255 = .ok (.aload 5, 2) := by decide +kernel
theorem dL_law_257 : decode cL_law 257 = .ok (.invokestatic 129, 3) := by decide +kernel
theorem dL_law_260 : decode cL_law 260 = .ok (.ifCond .ne 5, 3) := by decide +kernel
theorem dL_law_263 : decode cL_law 263 = .ok (.iconst 0, 1) := by decide +kernel
theorem dL_law_264 : decode cL_law 264 = .ok (.ireturn, 1) := by decide +kernel
theorem dL_law_265 : decode cL_law 265 = .ok (.iinc 7 1, 3) := by decide +kernel
theorem dL_law_268 : decode cL_law 268 = .ok (.goto (-159), 3) := by decide +kernel
theorem dL_law_271 : decode cL_law 271 = .ok (.aload_n 1, 1) := by decide +kernel
theorem dL_law_272 : decode cL_law 272 = .ok (.iconst 5, 1) := by decide +kernel
theorem dL_law_273 : decode cL_law 273 = .ok (.invokevirtual 79, 3) := by decide +kernel
theorem dL_law_276 : decode cL_law 276 = .ok (.ifCond .le 7, 3) := by decide +kernel
theorem dL_law_279 : decode cL_law 279 = .ok (.iconst 1, 1) := by decide +kernel
theorem dL_law_280 : decode cL_law 280 = .ok (.goto 4, 3) := by decide +kernel
theorem dL_law_283 : decode cL_law 283 = .ok (.iconst 0, 1) := by decide +kernel
theorem dL_law_284 : decode cL_law 284 = .ok (.ireturn, 1) := by decide +kernel
abbrev vwCl : List vw_C := [(RX0, TX0, 2), (RX1, TX1, 3), (RX2, TX2, 1), (RX3, TX3, 2), (RX4, TX4, 6), (RX5, TX5, 4)]
