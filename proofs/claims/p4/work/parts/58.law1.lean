
theorem dL_law_632 : decode cL_law 632 = .ok (.aload_n 1, 1) := by decide +kernel
theorem dL_law_633 : decode cL_law 633 = .ok (.aload_n 0, 1) := by decide +kernel
theorem dL_law_634 : decode cL_law 634 = .ok (.iload_n 3, 1) := by decide +kernel
theorem dL_law_635 : decode cL_law 635 = .ok (.iconst 1, 1) := by decide +kernel
theorem dL_law_636 : decode cL_law 636 = .ok (.iadd, 1) := by decide +kernel
theorem dL_law_637 : decode cL_law 637 = .ok (.iaload, 1) := by decide +kernel
theorem dL_law_638 : decode cL_law 638 = .ok (.aload_n 0, 1) := by decide +kernel
theorem dL_law_639 : decode cL_law 639 = .ok (.iload_n 3, 1) := by decide +kernel
theorem dL_law_640 : decode cL_law 640 = .ok (.iconst 2, 1) := by decide +kernel
theorem dL_law_641 : decode cL_law 641 = .ok (.iadd, 1) := by decide +kernel
theorem dL_law_642 : decode cL_law 642 = .ok (.iaload, 1) := by decide +kernel
theorem dL_law_643 : decode cL_law 643 = .ok (.invokevirtual 66, 3) := by decide +kernel
theorem dL_law_646 : decode cL_law 646 = .ok (.pop, 1) := by decide +kernel
theorem dL_law_647 : decode cL_law 647 = .ok (.aload_n 2, 1) := by decide +kernel
theorem dL_law_648 : decode cL_law 648 = .ok (.aload_n 0, 1) := by decide +kernel
theorem dL_law_649 : decode cL_law 649 = .ok (.iload_n 3, 1) := by decide +kernel
theorem dL_law_650 : decode cL_law 650 = .ok (.iconst 1, 1) := by decide +kernel
theorem dL_law_651 : decode cL_law 651 = .ok (.iadd, 1) := by decide +kernel
theorem dL_law_652 : decode cL_law 652 = .ok (.iaload, 1) := by decide +kernel
theorem dL_law_653 : decode cL_law 653 = .ok (.aload_n 0, 1) := by decide +kernel
theorem dL_law_654 : decode cL_law 654 = .ok (.iload_n 3, 1) := by decide +kernel
theorem dL_law_655 : decode cL_law 655 = .ok (.iconst 2, 1) := by decide +kernel
theorem dL_law_656 : decode cL_law 656 = .ok (.iadd, 1) := by decide +kernel
theorem dL_law_657 : decode cL_law 657 = .ok (.iaload, 1) := by decide +kernel
theorem dL_law_658 : decode cL_law 658 = .ok (.invokevirtual 69, 3) := by decide +kernel
theorem dL_law_661 : decode cL_law 661 = .ok (.pop, 1) := by decide +kernel
theorem dL_law_662 : decode cL_law 662 = .ok (.goto 1015, 3) := by decide +kernel
theorem dL_law_665 : decode cL_law 665 = .ok (.aload_n 1, 1) := by decide +kernel
theorem dL_law_666 : decode cL_law 666 = .ok (.aload_n 0, 1) := by decide +kernel
theorem dL_law_667 : decode cL_law 667 = .ok (.iload_n 3, 1) := by decide +kernel
theorem dL_law_668 : decode cL_law 668 = .ok (.iconst 1, 1) := by decide +kernel
theorem dL_law_669 : decode cL_law 669 = .ok (.iadd, 1) := by decide +kernel
theorem dL_law_670 : decode cL_law 670 = .ok (.iaload, 1) := by decide +kernel
theorem dL_law_671 : decode cL_law 671 = .ok (.aload_n 0, 1) := by decide +kernel
theorem dL_law_672 : decode cL_law 672 = .ok (.iload_n 3, 1) := by decide +kernel
theorem dL_law_673 : decode cL_law 673 = .ok (.iconst 2, 1) := by decide +kernel
theorem dL_law_674 : decode cL_law 674 = .ok (.iadd, 1) := by decide +kernel
theorem dL_law_675 : decode cL_law 675 = .ok (.iaload, 1) := by decide +kernel
theorem dL_law_676 : decode cL_law 676 = .ok (.invokevirtual 70, 3) := by decide +kernel
theorem dL_law_679 : decode cL_law 679 = .ok (.pop, 1) := by decide +kernel
theorem dL_law_680 : decode cL_law 680 = .ok (.aload_n 2, 1) := by decide +kernel
theorem dL_law_681 : decode cL_law 681 = .ok (.aload_n 0, 1) := by decide +kernel
theorem dL_law_682 : decode cL_law 682 = .ok (.iload_n 3, 1) := by decide +kernel
theorem dL_law_683 : decode cL_law 683 = .ok (.iconst 1, 1) := by decide +kernel
theorem dL_law_684 : decode cL_law 684 = .ok (.iadd, 1) := by decide +kernel
theorem dL_law_685 : decode cL_law 685 = .ok (.iaload, 1) := by decide +kernel
theorem dL_law_686 : decode cL_law 686 = .ok (.aload_n 0, 1) := by decide +kernel
theorem dL_law_687 : decode cL_law 687 = .ok (.iload_n 3, 1) := by decide +kernel
theorem dL_law_688 : decode cL_law 688 = .ok (.iconst 2, 1) := by decide +kernel
theorem dL_law_689 : decode cL_law 689 = .ok (.iadd, 1) := by decide +kernel
theorem dL_law_690 : decode cL_law 690 = .ok (.iaload, 1) := by decide +kernel
theorem dL_law_691 : decode cL_law 691 = .ok (.invokevirtual 73, 3) := by decide +kernel
theorem dL_law_694 : decode cL_law 694 = .ok (.pop, 1) := by decide +kernel
theorem dL_law_695 : decode cL_law 695 = .ok (.goto 982, 3) := by decide +kernel
theorem dL_law_698 : decode cL_law 698 = .ok (.aload_n 1, 1) := by decide +kernel
theorem dL_law_699 : decode cL_law 699 = .ok (.aload_n 0, 1) := by decide +kernel
theorem dL_law_700 : decode cL_law 700 = .ok (.iload_n 3, 1) := by decide +kernel
theorem dL_law_701 : decode cL_law 701 = .ok (.iconst 1, 1) := by decide +kernel
theorem dL_law_702 : decode cL_law 702 = .ok (.iadd, 1) := by decide +kernel
theorem dL_law_703 : decode cL_law 703 = .ok (.iaload, 1) := by decide +kernel
theorem dL_law_704 : decode cL_law 704 = .ok (.aload_n 0, 1) := by decide +kernel
theorem dL_law_705 : decode cL_law 705 = .ok (.iload_n 3, 1) := by decide +kernel
theorem dL_law_706 : decode cL_law 706 = .ok (.iconst 2, 1) := by decide +kernel
theorem dL_law_707 : decode cL_law 707 = .ok (.iadd, 1) := by decide +kernel
theorem dL_law_708 : decode cL_law 708 = .ok (.iaload, 1) := by decide +kernel
theorem dL_law_709 : decode cL_law 709 = .ok (.aload_n 0, 1) := by decide +kernel
theorem dL_law_710 : decode cL_law 710 = .ok (.iload_n 3, 1) := by decide +kernel
theorem dL_law_711 : decode cL_law 711 = .ok (.iconst 3, 1) := by decide +kernel
theorem dL_law_712 : decode cL_law 712 = .ok (.iadd, 1) := by decide +kernel
theorem dL_law_713 : decode cL_law 713 = .ok (.iaload, 1) := by decide +kernel
theorem dL_law_714 : decode cL_law 714 = .ok (.aload_n 0, 1) := by decide +kernel
theorem dL_law_715 : decode cL_law 715 = .ok (.iload_n 3, 1) := by decide +kernel
theorem dL_law_716 : decode cL_law 716 = .ok (.iconst 4, 1) := by decide +kernel
theorem dL_law_717 : decode cL_law 717 = .ok (.iadd, 1) := by decide +kernel
theorem dL_law_718 : decode cL_law 718 = .ok (.iaload, 1) := by decide +kernel
theorem dL_law_719 : decode cL_law 719 = .ok (.aload_n 0, 1) := by decide +kernel
theorem dL_law_720 : decode cL_law 720 = .ok (.iload_n 3, 1) := by decide +kernel
theorem dL_law_721 : decode cL_law 721 = .ok (.iconst 5, 1) := by decide +kernel
theorem dL_law_722 : decode cL_law 722 = .ok (.iadd, 1) := by decide +kernel
theorem dL_law_723 : decode cL_law 723 = .ok (.iaload, 1) := by decide +kernel
theorem dL_law_724 : decode cL_law 724 = .ok (.invokevirtual 74, 3) := by decide +kernel
theorem dL_law_727 : decode cL_law 727 = .ok (.pop, 1) := by decide +kernel
theorem dL_law_728 : decode cL_law 728 = .ok (.aload_n 2, 1) := by decide +kernel
theorem dL_law_729 : decode cL_law 729 = .ok (.aload_n 0, 1) := by decide +kernel
theorem dL_law_730 : decode cL_law 730 = .ok (.iload_n 3, 1) := by decide +kernel
theorem dL_law_731 : decode cL_law 731 = .ok (.iconst 1, 1) := by decide +kernel
theorem dL_law_732 : decode cL_law 732 = .ok (.iadd, 1) := by decide +kernel
theorem dL_law_733 : decode cL_law 733 = .ok (.iaload, 1) := by decide +kernel
theorem dL_law_734 : decode cL_law 734 = .ok (.aload_n 0, 1) := by decide +kernel
theorem dL_law_735 : decode cL_law 735 = .ok (.iload_n 3, 1) := by decide +kernel
theorem dL_law_736 : decode cL_law 736 = .ok (.iconst 2, 1) := by decide +kernel
theorem dL_law_737 : decode cL_law 737 = .ok (.iadd, 1) := by decide +kernel
theorem dL_law_738 : decode cL_law 738 = .ok (.iaload, 1) := by decide +kernel
theorem dL_law_739 : decode cL_law 739 = .ok (.aload_n 0, 1) := by decide +kernel
theorem dL_law_740 : decode cL_law 740 = .ok (.iload_n 3, 1) := by decide +kernel
theorem dL_law_741 : decode cL_law 741 = .ok (.iconst 3, 1) := by decide +kernel
theorem dL_law_742 : decode cL_law 742 = .ok (.iadd, 1) := by decide +kernel
theorem dL_law_743 : decode cL_law 743 = .ok (.iaload, 1) := by decide +kernel
theorem dL_law_744 : decode cL_law 744 = .ok (.aload_n 0, 1) := by decide +kernel
theorem dL_law_745 : decode cL_law 745 = .ok (.iload_n 3, 1) := by decide +kernel
theorem dL_law_746 : decode cL_law 746 = .ok (.iconst 4, 1) := by decide +kernel
theorem dL_law_747 : decode cL_law 747 = .ok (.iadd, 1) := by decide +kernel
theorem dL_law_748 : decode cL_law 748 = .ok (.iaload, 1) := by decide +kernel
theorem dL_law_749 : decode cL_law 749 = .ok (.aload_n 0, 1) := by decide +kernel
theorem dL_law_750 : decode cL_law 750 = .ok (.iload_n 3, 1) := by decide +kernel
theorem dL_law_751 : decode cL_law 751 = .ok (.iconst 5, 1) := by decide +kernel
theorem dL_law_752 : decode cL_law 752 = .ok (.iadd, 1) := by decide +kernel
theorem dL_law_753 : decode cL_law 753 = .ok (.iaload, 1) := by decide +kernel
theorem dL_law_754 : decode cL_law 754 = .ok (.invokevirtual 78, 3) := by decide +kernel
theorem dL_law_757 : decode cL_law 757 = .ok (.pop, 1) := by decide +kernel
theorem dL_law_758 : decode cL_law 758 = .ok (.goto 919, 3) := by decide +kernel
theorem dL_law_761 : decode cL_law 761 = .ok (.aload_n 1, 1) := by decide +kernel
theorem dL_law_762 : decode cL_law 762 = .ok (.aload_n 0, 1) := by decide +kernel
theorem dL_law_763 : decode cL_law 763 = .ok (.iload_n 3, 1) := by decide +kernel
theorem dL_law_764 : decode cL_law 764 = .ok (.iconst 1, 1) := by decide +kernel
theorem dL_law_765 : decode cL_law 765 = .ok (.iadd, 1) := by decide +kernel
theorem dL_law_766 : decode cL_law 766 = .ok (.iaload, 1) := by decide +kernel
theorem dL_law_767 : decode cL_law 767 = .ok (.invokevirtual 79, 3) := by decide +kernel
theorem dL_law_770 : decode cL_law 770 = .ok (.pop, 1) := by decide +kernel
theorem dL_law_771 : decode cL_law 771 = .ok (.aload_n 2, 1) := by decide +kernel
theorem dL_law_772 : decode cL_law 772 = .ok (.aload_n 0, 1) := by decide +kernel
theorem dL_law_773 : decode cL_law 773 = .ok (.iload_n 3, 1) := by decide +kernel
theorem dL_law_774 : decode cL_law 774 = .ok (.iconst 1, 1) := by decide +kernel
theorem dL_law_775 : decode cL_law 775 = .ok (.iadd, 1) := by decide +kernel
theorem dL_law_776 : decode cL_law 776 = .ok (.iaload, 1) := by decide +kernel
theorem dL_law_777 : decode cL_law 777 = .ok (.invokevirtual 82, 3) := by decide +kernel
theorem dL_law_780 : decode cL_law 780 = .ok (.pop, 1) := by decide +kernel
theorem dL_law_781 : decode cL_law 781 = .ok (.goto 896, 3) := by decide +kernel
theorem dL_law_784 : decode cL_law 784 = .ok (.aload_n 1, 1) := by decide +kernel
theorem dL_law_785 : decode cL_law 785 = .ok (.aload_n 0, 1) := by decide +kernel
theorem dL_law_786 : decode cL_law 786 = .ok (.iload_n 3, 1) := by decide +kernel
theorem dL_law_787 : decode cL_law 787 = .ok (.iconst 1, 1) := by decide +kernel
theorem dL_law_788 : decode cL_law 788 = .ok (.iadd, 1) := by decide +kernel
theorem dL_law_789 : decode cL_law 789 = .ok (.iaload, 1) := by decide +kernel
theorem dL_law_790 : decode cL_law 790 = .ok (.invokevirtual 83, 3) := by decide +kernel
theorem dL_law_793 : decode cL_law 793 = .ok (.pop, 1) := by decide +kernel
theorem dL_law_794 : decode cL_law 794 = .ok (.aload_n 2, 1) := by decide +kernel
theorem dL_law_795 : decode cL_law 795 = .ok (.aload_n 0, 1) := by decide +kernel
theorem dL_law_796 : decode cL_law 796 = .ok (.iload_n 3, 1) := by decide +kernel
theorem dL_law_797 : decode cL_law 797 = .ok (.iconst 1, 1) := by decide +kernel
theorem dL_law_798 : decode cL_law 798 = .ok (.iadd, 1) := by decide +kernel
theorem dL_law_799 : decode cL_law 799 = .ok (.iaload, 1) := by decide +kernel
theorem dL_law_800 : decode cL_law 800 = .ok (.invokevirtual 86, 3) := by decide +kernel
theorem dL_law_803 : decode cL_law 803 = .ok (.pop, 1) := by decide +kernel
theorem dL_law_804 : decode cL_law 804 = .ok (.goto 873, 3) := by decide +kernel
theorem dL_law_807 : decode cL_law 807 = .ok (.aload_n 1, 1) := by decide +kernel
theorem dL_law_808 : decode cL_law 808 = .ok (.invokevirtual 87, 3) := by decide +kernel
theorem dL_law_811 : decode cL_law 811 = .ok (.pop, 1) := by decide +kernel
theorem dL_law_812 : decode cL_law 812 = .ok (.aload_n 2, 1) := by decide +kernel
theorem dL_law_813 : decode cL_law 813 = .ok (.invokevirtual 90, 3) := by decide +kernel
theorem dL_law_816 : decode cL_law 816 = .ok (.pop, 1) := by decide +kernel
theorem dL_law_817 : decode cL_law 817 = .ok (.goto 860, 3) := by decide +kernel
theorem dL_law_820 : decode cL_law 820 = .ok (.aload_n 1, 1) := by decide +kernel
theorem dL_law_821 : decode cL_law 821 = .ok (.aload_n 0, 1) := by decide +kernel
theorem dL_law_822 : decode cL_law 822 = .ok (.iload_n 3, 1) := by decide +kernel
theorem dL_law_823 : decode cL_law 823 = .ok (.iconst 1, 1) := by decide +kernel
theorem dL_law_824 : decode cL_law 824 = .ok (.iadd, 1) := by decide +kernel
theorem dL_law_825 : decode cL_law 825 = .ok (.iaload, 1) := by decide +kernel
theorem dL_law_826 : decode cL_law 826 = .ok (.aload_n 0, 1) := by decide +kernel
theorem dL_law_827 : decode cL_law 827 = .ok (.iload_n 3, 1) := by decide +kernel
theorem dL_law_828 : decode cL_law 828 = .ok (.iconst 2, 1) := by decide +kernel
theorem dL_law_829 : decode cL_law 829 = .ok (.iadd, 1) := by decide +kernel
theorem dL_law_830 : decode cL_law 830 = .ok (.iaload, 1) := by decide +kernel
theorem dL_law_831 : decode cL_law 831 = .ok (.aload_n 0, 1) := by decide +kernel
theorem dL_law_832 : decode cL_law 832 = .ok (.iload_n 3, 1) := by decide +kernel
theorem dL_law_833 : decode cL_law 833 = .ok (.iconst 3, 1) := by decide +kernel
theorem dL_law_834 : decode cL_law 834 = .ok (.iadd, 1) := by decide +kernel
theorem dL_law_835 : decode cL_law 835 = .ok (.iaload, 1) := by decide +kernel
theorem dL_law_836 : decode cL_law 836 = .ok (.invokevirtual 91, 3) := by decide +kernel
theorem dL_law_839 : decode cL_law 839 = .ok (.pop, 1) := by decide +kernel
theorem dL_law_840 : decode cL_law 840 = .ok (.aload_n 2, 1) := by decide +kernel
theorem dL_law_841 : decode cL_law 841 = .ok (.aload_n 0, 1) := by decide +kernel
theorem dL_law_842 : decode cL_law 842 = .ok (.iload_n 3, 1) := by decide +kernel
theorem dL_law_843 : decode cL_law 843 = .ok (.iconst 1, 1) := by decide +kernel
theorem dL_law_844 : decode cL_law 844 = .ok (.iadd, 1) := by decide +kernel
theorem dL_law_845 : decode cL_law 845 = .ok (.iaload, 1) := by decide +kernel
theorem dL_law_846 : decode cL_law 846 = .ok (.aload_n 0, 1) := by decide +kernel
theorem dL_law_847 : decode cL_law 847 = .ok (.iload_n 3, 1) := by decide +kernel
theorem dL_law_848 : decode cL_law 848 = .ok (.iconst 2, 1) := by decide +kernel
theorem dL_law_849 : decode cL_law 849 = .ok (.iadd, 1) := by decide +kernel
theorem dL_law_850 : decode cL_law 850 = .ok (.iaload, 1) := by decide +kernel
theorem dL_law_851 : decode cL_law 851 = .ok (.aload_n 0, 1) := by decide +kernel
theorem dL_law_852 : decode cL_law 852 = .ok (.iload_n 3, 1) := by decide +kernel
theorem dL_law_853 : decode cL_law 853 = .ok (.iconst 3, 1) := by decide +kernel
theorem dL_law_854 : decode cL_law 854 = .ok (.iadd, 1) := by decide +kernel
theorem dL_law_855 : decode cL_law 855 = .ok (.iaload, 1) := by decide +kernel
theorem dL_law_856 : decode cL_law 856 = .ok (.invokevirtual 94, 3) := by decide +kernel
theorem dL_law_859 : decode cL_law 859 = .ok (.pop, 1) := by decide +kernel
theorem dL_law_860 : decode cL_law 860 = .ok (.goto 817, 3) := by decide +kernel
theorem dL_law_863 : decode cL_law 863 = .ok (.aload_n 1, 1) := by decide +kernel
theorem dL_law_864 : decode cL_law 864 = .ok (.aload_n 0, 1) := by decide +kernel
theorem dL_law_865 : decode cL_law 865 = .ok (.iload_n 3, 1) := by decide +kernel
theorem dL_law_866 : decode cL_law 866 = .ok (.iconst 1, 1) := by decide +kernel
theorem dL_law_867 : decode cL_law 867 = .ok (.iadd, 1) := by decide +kernel
theorem dL_law_868 : decode cL_law 868 = .ok (.iaload, 1) := by decide +kernel
theorem dL_law_869 : decode cL_law 869 = .ok (.aload_n 0, 1) := by decide +kernel
theorem dL_law_870 : decode cL_law 870 = .ok (.iload_n 3, 1) := by decide +kernel
theorem dL_law_871 : decode cL_law 871 = .ok (.iconst 2, 1) := by decide +kernel
theorem dL_law_872 : decode cL_law 872 = .ok (.iadd, 1) := by decide +kernel
theorem dL_law_873 : decode cL_law 873 = .ok (.iaload, 1) := by decide +kernel
theorem dL_law_874 : decode cL_law 874 = .ok (.aload_n 0, 1) := by decide +kernel
theorem dL_law_875 : decode cL_law 875 = .ok (.iload_n 3, 1) := by decide +kernel
theorem dL_law_876 : decode cL_law 876 = .ok (.iconst 3, 1) := by decide +kernel
theorem dL_law_877 : decode cL_law 877 = .ok (.iadd, 1) := by decide +kernel
theorem dL_law_878 : decode cL_law 878 = .ok (.iaload, 1) := by decide +kernel
theorem dL_law_879 : decode cL_law 879 = .ok (.aload_n 0, 1) := by decide +kernel
theorem dL_law_880 : decode cL_law 880 = .ok (.iload_n 3, 1) := by decide +kernel
theorem dL_law_881 : decode cL_law 881 = .ok (.iconst 4, 1) := by decide +kernel
theorem dL_law_882 : decode cL_law 882 = .ok (.iadd, 1) := by decide +kernel
theorem dL_law_883 : decode cL_law 883 = .ok (.iaload, 1) := by decide +kernel
theorem dL_law_884 : decode cL_law 884 = .ok (.invokevirtual 95, 3) := by decide +kernel
theorem dL_law_887 : decode cL_law 887 = .ok (.pop, 1) := by decide +kernel
theorem dL_law_888 : decode cL_law 888 = .ok (.aload_n 2, 1) := by decide +kernel
theorem dL_law_889 : decode cL_law 889 = .ok (.aload_n 0, 1) := by decide +kernel
theorem dL_law_890 : decode cL_law 890 = .ok (.iload_n 3, 1) := by decide +kernel
theorem dL_law_891 : decode cL_law 891 = .ok (.iconst 1, 1) := by decide +kernel
theorem dL_law_892 : decode cL_law 892 = .ok (.iadd, 1) := by decide +kernel
theorem dL_law_893 : decode cL_law 893 = .ok (.iaload, 1) := by decide +kernel
theorem dL_law_894 : decode cL_law 894 = .ok (.aload_n 0, 1) := by decide +kernel
theorem dL_law_895 : decode cL_law 895 = .ok (.iload_n 3, 1) := by decide +kernel
theorem dL_law_896 : decode cL_law 896 = .ok (.iconst 2, 1) := by decide +kernel
theorem dL_law_897 : decode cL_law 897 = .ok (.iadd, 1) := by decide +kernel
theorem dL_law_898 : decode cL_law 898 = .ok (.iaload, 1) := by decide +kernel
theorem dL_law_899 : decode cL_law 899 = .ok (.aload_n 0, 1) := by decide +kernel
theorem dL_law_900 : decode cL_law 900 = .ok (.iload_n 3, 1) := by decide +kernel
theorem dL_law_901 : decode cL_law 901 = .ok (.iconst 3, 1) := by decide +kernel
theorem dL_law_902 : decode cL_law 902 = .ok (.iadd, 1) := by decide +kernel
theorem dL_law_903 : decode cL_law 903 = .ok (.iaload, 1) := by decide +kernel
theorem dL_law_904 : decode cL_law 904 = .ok (.aload_n 0, 1) := by decide +kernel
theorem dL_law_905 : decode cL_law 905 = .ok (.iload_n 3, 1) := by decide +kernel
theorem dL_law_906 : decode cL_law 906 = .ok (.iconst 4, 1) := by decide +kernel
theorem dL_law_907 : decode cL_law 907 = .ok (.iadd, 1) := by decide +kernel
theorem dL_law_908 : decode cL_law 908 = .ok (.iaload, 1) := by decide +kernel
theorem dL_law_909 : decode cL_law 909 = .ok (.invokevirtual 98, 3) := by decide +kernel
theorem dL_law_912 : decode cL_law 912 = .ok (.pop, 1) := by decide +kernel
theorem dL_law_913 : decode cL_law 913 = .ok (.goto 764, 3) := by decide +kernel
theorem dL_law_916 : decode cL_law 916 = .ok (.aload_n 1, 1) := by decide +kernel
theorem dL_law_917 : decode cL_law 917 = .ok (.aload_n 0, 1) := by decide +kernel
theorem dL_law_918 : decode cL_law 918 = .ok (.iload_n 3, 1) := by decide +kernel
theorem dL_law_919 : decode cL_law 919 = .ok (.iconst 1, 1) := by decide +kernel
theorem dL_law_920 : decode cL_law 920 = .ok (.iadd, 1) := by decide +kernel
theorem dL_law_921 : decode cL_law 921 = .ok (.iaload, 1) := by decide +kernel
theorem dL_law_922 : decode cL_law 922 = .ok (.invokevirtual 99, 3) := by decide +kernel
theorem dL_law_925 : decode cL_law 925 = .ok (.pop, 1) := by decide +kernel
theorem dL_law_926 : decode cL_law 926 = .ok (.aload_n 2, 1) := by decide +kernel
theorem dL_law_927 : decode cL_law 927 = .ok (.aload_n 0, 1) := by decide +kernel
theorem dL_law_928 : decode cL_law 928 = .ok (.iload_n 3, 1) := by decide +kernel
theorem dL_law_929 : decode cL_law 929 = .ok (.iconst 1, 1) := by decide +kernel
theorem dL_law_930 : decode cL_law 930 = .ok (.iadd, 1) := by decide +kernel
theorem dL_law_931 : decode cL_law 931 = .ok (.iaload, 1) := by decide +kernel
theorem dL_law_932 : decode cL_law 932 = .ok (.invokevirtual 102, 3) := by decide +kernel
theorem dL_law_935 : decode cL_law 935 = .ok (.pop, 1) := by decide +kernel
theorem dL_law_936 : decode cL_law 936 = .ok (.goto 741, 3) := by decide +kernel
theorem dL_law_939 : decode cL_law 939 = .ok (.aload_n 1, 1) := by decide +kernel
theorem dL_law_940 : decode cL_law 940 = .ok (.aload_n 0, 1) := by decide +kernel
theorem dL_law_941 : decode cL_law 941 = .ok (.iload_n 3, 1) := by decide +kernel
theorem dL_law_942 : decode cL_law 942 = .ok (.iconst 1, 1) := by decide +kernel
theorem dL_law_943 : decode cL_law 943 = .ok (.iadd, 1) := by decide +kernel
theorem dL_law_944 : decode cL_law 944 = .ok (.iaload, 1) := by decide +kernel
theorem dL_law_945 : decode cL_law 945 = .ok (.invokevirtual 103, 3) := by decide +kernel
theorem dL_law_948 : decode cL_law 948 = .ok (.pop, 1) := by decide +kernel
theorem dL_law_949 : decode cL_law 949 = .ok (.aload_n 2, 1) := by decide +kernel
theorem dL_law_950 : decode cL_law 950 = .ok (.aload_n 0, 1) := by decide +kernel
theorem dL_law_951 : decode cL_law 951 = .ok (.iload_n 3, 1) := by decide +kernel
theorem dL_law_952 : decode cL_law 952 = .ok (.iconst 1, 1) := by decide +kernel
theorem dL_law_953 : decode cL_law 953 = .ok (.iadd, 1) := by decide +kernel
theorem dL_law_954 : decode cL_law 954 = .ok (.iaload, 1) := by decide +kernel
theorem dL_law_955 : decode cL_law 955 = .ok (.invokevirtual 106, 3) := by decide +kernel
theorem dL_law_958 : decode cL_law 958 = .ok (.pop, 1) := by decide +kernel
theorem dL_law_959 : decode cL_law 959 = .ok (.goto 718, 3) := by decide +kernel
theorem dL_law_962 : decode cL_law 962 = .ok (.aload_n 1, 1) := by decide +kernel
theorem dL_law_963 : decode cL_law 963 = .ok (.aload_n 0, 1) := by decide +kernel
theorem dL_law_964 : decode cL_law 964 = .ok (.iload_n 3, 1) := by decide +kernel
theorem dL_law_965 : decode cL_law 965 = .ok (.iconst 1, 1) := by decide +kernel
theorem dL_law_966 : decode cL_law 966 = .ok (.iadd, 1) := by decide +kernel
theorem dL_law_967 : decode cL_law 967 = .ok (.iaload, 1) := by decide +kernel
theorem dL_law_968 : decode cL_law 968 = .ok (.aload_n 0, 1) := by decide +kernel
theorem dL_law_969 : decode cL_law 969 = .ok (.iload_n 3, 1) := by decide +kernel
theorem dL_law_970 : decode cL_law 970 = .ok (.iconst 2, 1) := by decide +kernel
theorem dL_law_971 : decode cL_law 971 = .ok (.iadd, 1) := by decide +kernel
theorem dL_law_972 : decode cL_law 972 = .ok (.iaload, 1) := by decide +kernel
theorem dL_law_973 : decode cL_law 973 = .ok (.aload_n 0, 1) := by decide +kernel
theorem dL_law_974 : decode cL_law 974 = .ok (.iload_n 3, 1) := by decide +kernel
theorem dL_law_975 : decode cL_law 975 = .ok (.iconst 3, 1) := by decide +kernel
theorem dL_law_976 : decode cL_law 976 = .ok (.iadd, 1) := by decide +kernel
theorem dL_law_977 : decode cL_law 977 = .ok (.iaload, 1) := by decide +kernel
theorem dL_law_978 : decode cL_law 978 = .ok (.invokevirtual 107, 3) := by decide +kernel
theorem dL_law_981 : decode cL_law 981 = .ok (.pop, 1) := by decide +kernel
theorem dL_law_982 : decode cL_law 982 = .ok (.aload_n 2, 1) := by decide +kernel
theorem dL_law_983 : decode cL_law 983 = .ok (.aload_n 0, 1) := by decide +kernel
theorem dL_law_984 : decode cL_law 984 = .ok (.iload_n 3, 1) := by decide +kernel
theorem dL_law_985 : decode cL_law 985 = .ok (.iconst 1, 1) := by decide +kernel
theorem dL_law_986 : decode cL_law 986 = .ok (.iadd, 1) := by decide +kernel
theorem dL_law_987 : decode cL_law 987 = .ok (.iaload, 1) := by decide +kernel
theorem dL_law_988 : decode cL_law 988 = .ok (.aload_n 0, 1) := by decide +kernel
theorem dL_law_989 : decode cL_law 989 = .ok (.iload_n 3, 1) := by decide +kernel
theorem dL_law_990 : decode cL_law 990 = .ok (.iconst 2, 1) := by decide +kernel
theorem dL_law_991 : decode cL_law 991 = .ok (.iadd, 1) := by decide +kernel
theorem dL_law_992 : decode cL_law 992 = .ok (.iaload, 1) := by decide +kernel
theorem dL_law_993 : decode cL_law 993 = .ok (.aload_n 0, 1) := by decide +kernel
theorem dL_law_994 : decode cL_law 994 = .ok (.iload_n 3, 1) := by decide +kernel
theorem dL_law_995 : decode cL_law 995 = .ok (.iconst 3, 1) := by decide +kernel
theorem dL_law_996 : decode cL_law 996 = .ok (.iadd, 1) := by decide +kernel
theorem dL_law_997 : decode cL_law 997 = .ok (.iaload, 1) := by decide +kernel
theorem dL_law_998 : decode cL_law 998 = .ok (.invokevirtual 110, 3) := by decide +kernel
theorem dL_law_1001 : decode cL_law 1001 = .ok (.pop, 1) := by decide +kernel
theorem dL_law_1002 : decode cL_law 1002 = .ok (.goto 675, 3) := by decide +kernel
theorem dL_law_1005 : decode cL_law 1005 = .ok (.aload_n 1, 1) := by decide +kernel
theorem dL_law_1006 : decode cL_law 1006 = .ok (.aload_n 0, 1) := by decide +kernel
theorem dL_law_1007 : decode cL_law 1007 = .ok (.iload_n 3, 1) := by decide +kernel
theorem dL_law_1008 : decode cL_law 1008 = .ok (.iconst 1, 1) := by decide +kernel
theorem dL_law_1009 : decode cL_law 1009 = .ok (.iadd, 1) := by decide +kernel
theorem dL_law_1010 : decode cL_law 1010 = .ok (.iaload, 1) := by decide +kernel
theorem dL_law_1011 : decode cL_law 1011 = .ok (.aload_n 0, 1) := by decide +kernel
theorem dL_law_1012 : decode cL_law 1012 = .ok (.iload_n 3, 1) := by decide +kernel
theorem dL_law_1013 : decode cL_law 1013 = .ok (.iconst 2, 1) := by decide +kernel
theorem dL_law_1014 : decode cL_law 1014 = .ok (.iadd, 1) := by decide +kernel
theorem dL_law_1015 : decode cL_law 1015 = .ok (.iaload, 1) := by decide +kernel
theorem dL_law_1016 : decode cL_law 1016 = .ok (.aload_n 0, 1) := by decide +kernel
theorem dL_law_1017 : decode cL_law 1017 = .ok (.iload_n 3, 1) := by decide +kernel
theorem dL_law_1018 : decode cL_law 1018 = .ok (.iconst 3, 1) := by decide +kernel
theorem dL_law_1019 : decode cL_law 1019 = .ok (.iadd, 1) := by decide +kernel
theorem dL_law_1020 : decode cL_law 1020 = .ok (.iaload, 1) := by decide +kernel
theorem dL_law_1021 : decode cL_law 1021 = .ok (.invokevirtual 111, 3) := by decide +kernel
theorem dL_law_1024 : decode cL_law 1024 = .ok (.pop, 1) := by decide +kernel
theorem dL_law_1025 : decode cL_law 1025 = .ok (.aload_n 2, 1) := by decide +kernel
theorem dL_law_1026 : decode cL_law 1026 = .ok (.aload_n 0, 1) := by decide +kernel
theorem dL_law_1027 : decode cL_law 1027 = .ok (.iload_n 3, 1) := by decide +kernel
theorem dL_law_1028 : decode cL_law 1028 = .ok (.iconst 1, 1) := by decide +kernel
theorem dL_law_1029 : decode cL_law 1029 = .ok (.iadd, 1) := by decide +kernel
theorem dL_law_1030 : decode cL_law 1030 = .ok (.iaload, 1) := by decide +kernel
theorem dL_law_1031 : decode cL_law 1031 = .ok (.aload_n 0, 1) := by decide +kernel
theorem dL_law_1032 : decode cL_law 1032 = .ok (.iload_n 3, 1) := by decide +kernel
theorem dL_law_1033 : decode cL_law 1033 = .ok (.iconst 2, 1) := by decide +kernel
theorem dL_law_1034 : decode cL_law 1034 = .ok (.iadd, 1) := by decide +kernel
theorem dL_law_1035 : decode cL_law 1035 = .ok (.iaload, 1) := by decide +kernel
theorem dL_law_1036 : decode cL_law 1036 = .ok (.aload_n 0, 1) := by decide +kernel
theorem dL_law_1037 : decode cL_law 1037 = .ok (.iload_n 3, 1) := by decide +kernel
theorem dL_law_1038 : decode cL_law 1038 = .ok (.iconst 3, 1) := by decide +kernel
theorem dL_law_1039 : decode cL_law 1039 = .ok (.iadd, 1) := by decide +kernel
theorem dL_law_1040 : decode cL_law 1040 = .ok (.iaload, 1) := by decide +kernel
theorem dL_law_1041 : decode cL_law 1041 = .ok (.invokevirtual 114, 3) := by decide +kernel
theorem dL_law_1044 : decode cL_law 1044 = .ok (.pop, 1) := by decide +kernel
theorem dL_law_1045 : decode cL_law 1045 = .ok (.goto 632, 3) := by decide +kernel
set_option maxHeartbeats 4000000 in
set_option maxRecDepth 100000 in
theorem law_case_12 (l : Launch) (G : va_G) (cI cJ cZ cD cR cT : ClassId) (σ : SE) (x k b Ls : Nat) (xs : Nat → Int32) (p : Program) (e : Env) (s : State) (m : MethodId) (below : List Frame) (meth : Method) (c : Code) (A : Nat → Prop) (Q : State → Prop) (i : Int32) (E : EV G cI cJ cZ cD cR cT A cL_law ret 4 RL p s m ([.ref b] : List Value).toArray meth c) (hSX : SX σ A s s.heap) (hCA : CA s) (hX : va_X b Ls xs s s.heap) (hbl : b < s.heap.size) (hbA : ¬ A b) (hi : 0 ≤ i.toInt ∧ i.toInt + 6 ≤ (Ls : Int) ∧ Ls ≤ 3072) (cells slots : Nat) (hc : cells + 8 ≤ room_1.cells) (hs : slots + 2810 ≤ room_1.slots) (kp : Nat → Nat) (L : List Nat) (f : Nat → va_E) (S : State) (ls : Array Slot) (H : Heap) (locs : List Loc) (hI : LWS G cI cJ cZ cD cR cT A kp L f x k s S H locs) (hl : lv_has ls 4 [(3, .int i), (2, .ref k), (1, .ref x), (0, .ref b)])
  (hend : ∀ (kp : Nat → Nat) (L : List Nat) (f : Nat → va_E) (S : State) (ls : Array Slot) (H : Heap) (locs : List Loc), LWS G cI cJ cZ cD cR cT A kp L f x k s S H locs → lv_has ls 4 [(3, .int i), (2, .ref k), (1, .ref x), (0, .ref b)] → W p l e room_1 S m ([.ref b] : List Value).toArray below meth c H locs (cells + 8) (slots + 2810) Q (F0 m 1677 ls [])) : W p l e room_1 S m ([.ref b] : List Value).toArray below meth c H locs cells slots Q (F0 m 632 ls []) := by
  obtain ⟨hdr, hW, rx, rk, hT, hZ⟩ := hI
  have hq := hs_S hdr
  have ES := ev_S E hdr
  have hXS := xx_S hdr hX
  have hTH := hW.2.2.2
  obtain ⟨hx, hb, -, hml, hown, hts, -, -, -⟩ := id ES
  have rx0 := rx
  have rk0 := rk
  refine lv_aload_n hx hb dL_law_632 rfl (lv_at hl 2 rfl) ?_
  refine law_arg (k := 1) hx hb hl hXS (by rw [hq]; exact hbl) hbA hW.2.2.1 hi rfl (by decide) dL_law_633 dL_law_634 dL_law_635 dL_law_636 dL_law_637 ?_
  refine law_arg (k := 2) hx hb hl hXS (by rw [hq]; exact hbl) hbA hW.2.2.1 hi rfl (by decide) dL_law_638 dL_law_639 dL_law_640 dL_law_641 dL_law_642 ?_
  refine t_callVXD (As := [.int (ag xs i 1), .int (ag xs i 2)]) (rest := []) ES hdr hW (c_X11_row l G cI cJ cZ cD cR cT kp L f hW.2.2.2 _ x (ag xs i 1) (ag xs i 2) rx) rx (by decide) rfl wk_X11_row tw_783 rfl ⟨Nat.le_of_ble_eq_true rfl, Nat.le_of_ble_eq_true rfl⟩ ⟨rfl, rfl⟩ hl.1 rfl (Nat.le_of_ble_eq_true rfl) dL_law_643 ⟨by omega, by omega⟩ (fun v kp1 L1 f1 S H locs hE q ES hdr hW1 => ?_)
  obtain ⟨⟨r1, rfl⟩, g1⟩ := q
  have hq := hs_S hdr
  have hXS := xx_S hdr hX
  obtain ⟨hx, hb, -, hml, hown, hts, -, -, -⟩ := id ES
  have hT1 := txi_fm hTH hT g1 rk0 rfl rfl rfl rfl
  have rx := hE _ _ rx
  have rk := hE _ _ rk
  have hZ1 := tie_fm hTH hZ g1 rx0 rk0 rfl rfl rfl rfl rfl rfl
  have hW := hW1
  refine lv_pop hx hb dL_law_646 rfl ?_
  refine lv_aload_n hx hb dL_law_647 rfl (lv_at hl 1 rfl) ?_
  refine law_arg (k := 1) hx hb hl hXS (by rw [hq]; exact hbl) hbA hW.2.2.1 hi rfl (by decide) dL_law_648 dL_law_649 dL_law_650 dL_law_651 dL_law_652 ?_
  refine law_arg (k := 2) hx hb hl hXS (by rw [hq]; exact hbl) hbA hW.2.2.1 hi rfl (by decide) dL_law_653 dL_law_654 dL_law_655 dL_law_656 dL_law_657 ?_
  refine t_callVD (As := [.int (ag xs i 1), .int (ag xs i 2)]) (rest := []) ES hdr hW1 (c_X12_row l G cI cJ cZ cD cR cT kp1 L1 f1 hW1.2.2.2 _ k (ag xs i 1) (ag xs i 2) rk) rk (by decide) rfl wk_X12_row tw_1724 rfl ⟨Nat.le_of_ble_eq_true rfl, Nat.le_of_ble_eq_true rfl⟩ ⟨rfl, rfl⟩ hl.1 rfl (Nat.le_of_ble_eq_true rfl) dL_law_658 ⟨by omega, by omega⟩ (fun v f2 S H locs q ES hdr hW2 => ?_)
  obtain ⟨⟨r2, rfl, -⟩, g2, hR⟩ := q
  have hT2 := txi_rf hW1.2.2.2 hT1 g2 rk rfl rfl rfl hR (by decide) (by decide)
  obtain ⟨hx, hb, -, hml, hown, hts, -, -, -⟩ := id ES
  have hZ2 := tie_row hW1.2.2.2 hZ1 g2 rx rk rfl rfl rfl rfl rfl (r8_rf rk g2 rfl hR (by decide +kernel) (by decide +kernel))
  refine lv_pop hx hb dL_law_661 rfl ?_
  refine lv_goto (tgt := 1677) hx hb dL_law_662 (by decide) ?_
  refine W.more (c2 := cells + 8) (s2 := slots + 2810) (by omega) (by omega) ?_
  exact hend kp1 L1 f2 S ls H locs ⟨hdr, hW2, rx, rk, hT2, hZ2⟩ hl
set_option maxHeartbeats 4000000 in
set_option maxRecDepth 100000 in
theorem law_case_13 (l : Launch) (G : va_G) (cI cJ cZ cD cR cT : ClassId) (σ : SE) (x k b Ls : Nat) (xs : Nat → Int32) (p : Program) (e : Env) (s : State) (m : MethodId) (below : List Frame) (meth : Method) (c : Code) (A : Nat → Prop) (Q : State → Prop) (i : Int32) (E : EV G cI cJ cZ cD cR cT A cL_law ret 4 RL p s m ([.ref b] : List Value).toArray meth c) (hSX : SX σ A s s.heap) (hCA : CA s) (hX : va_X b Ls xs s s.heap) (hbl : b < s.heap.size) (hbA : ¬ A b) (hi : 0 ≤ i.toInt ∧ i.toInt + 6 ≤ (Ls : Int) ∧ Ls ≤ 3072) (cells slots : Nat) (hc : cells + 8 ≤ room_1.cells) (hs : slots + 2810 ≤ room_1.slots) (kp : Nat → Nat) (L : List Nat) (f : Nat → va_E) (S : State) (ls : Array Slot) (H : Heap) (locs : List Loc) (hI : LWS G cI cJ cZ cD cR cT A kp L f x k s S H locs) (hl : lv_has ls 4 [(3, .int i), (2, .ref k), (1, .ref x), (0, .ref b)])
  (hend : ∀ (kp : Nat → Nat) (L : List Nat) (f : Nat → va_E) (S : State) (ls : Array Slot) (H : Heap) (locs : List Loc), LWS G cI cJ cZ cD cR cT A kp L f x k s S H locs → lv_has ls 4 [(3, .int i), (2, .ref k), (1, .ref x), (0, .ref b)] → W p l e room_1 S m ([.ref b] : List Value).toArray below meth c H locs (cells + 8) (slots + 2810) Q (F0 m 1677 ls [])) : W p l e room_1 S m ([.ref b] : List Value).toArray below meth c H locs cells slots Q (F0 m 665 ls []) := by
  obtain ⟨hdr, hW, rx, rk, hT, hZ⟩ := hI
  have hq := hs_S hdr
  have ES := ev_S E hdr
  have hXS := xx_S hdr hX
  have hTH := hW.2.2.2
  obtain ⟨hx, hb, -, hml, hown, hts, -, -, -⟩ := id ES
  have rx0 := rx
  have rk0 := rk
  refine lv_aload_n hx hb dL_law_665 rfl (lv_at hl 2 rfl) ?_
  refine law_arg (k := 1) hx hb hl hXS (by rw [hq]; exact hbl) hbA hW.2.2.1 hi rfl (by decide) dL_law_666 dL_law_667 dL_law_668 dL_law_669 dL_law_670 ?_
  refine law_arg (k := 2) hx hb hl hXS (by rw [hq]; exact hbl) hbA hW.2.2.1 hi rfl (by decide) dL_law_671 dL_law_672 dL_law_673 dL_law_674 dL_law_675 ?_
  refine t_callV (As := [.int (ag xs i 1), .int (ag xs i 2)]) (rest := []) ES hW (c_X11_crop l G cI cJ cZ cD cR cT kp L f hW.2.2.2 _ x (ag xs i 1) (ag xs i 2) rx) rx (by decide) rfl wk_X11_crop tw_839 rfl ⟨Nat.le_of_ble_eq_true rfl, Nat.le_of_ble_eq_true rfl⟩ ⟨rfl, rfl⟩ hl.1 rfl (Nat.le_of_ble_eq_true rfl) dL_law_676 ⟨by omega, by omega⟩ (fun v f1 H locs q hW1 => ?_)
  obtain ⟨⟨r1, rfl, p1⟩, g1⟩ := q
  have hT1 := txi_fm hTH hT g1 rk0 rfl rfl rfl rfl
  have hZ1 := tie_fm hTH hZ g1 rx0 rk0 rfl rfl rfl rfl rfl rfl
  have hW := hW1
  refine lv_pop hx hb dL_law_679 rfl ?_
  refine lv_aload_n hx hb dL_law_680 rfl (lv_at hl 1 rfl) ?_
  refine law_arg (k := 1) hx hb hl hXS (by rw [hq]; exact hbl) hbA hW.2.2.1 hi rfl (by decide) dL_law_681 dL_law_682 dL_law_683 dL_law_684 dL_law_685 ?_
  refine law_arg (k := 2) hx hb hl hXS (by rw [hq]; exact hbl) hbA hW.2.2.1 hi rfl (by decide) dL_law_686 dL_law_687 dL_law_688 dL_law_689 dL_law_690 ?_
  refine t_callV (As := [.int (ag xs i 1), .int (ag xs i 2)]) (rest := []) ES hW1 (c_X12_crop l G cI cJ cZ cD cR cT kp L f1 hW1.2.2.2 _ k (ag xs i 1) (ag xs i 2) rk) rk (by decide) rfl wk_X12_crop tw_1741 rfl ⟨Nat.le_of_ble_eq_true rfl, Nat.le_of_ble_eq_true rfl⟩ ⟨rfl, rfl⟩ hl.1 rfl (Nat.le_of_ble_eq_true rfl) dL_law_691 ⟨by omega, by omega⟩ (fun v f2 H locs q hW2 => ?_)
  obtain ⟨⟨r2, rfl, p2⟩, g2⟩ := q
  have hT2 := txi_fm hW1.2.2.2 hT1 g2 rk rfl rfl rfl rfl
  have hZ2 := tie_fm hW1.2.2.2 hZ1 g2 rx rk rfl rfl rfl rfl rfl rfl
  refine lv_pop hx hb dL_law_694 rfl ?_
  refine lv_goto (tgt := 1677) hx hb dL_law_695 (by decide) ?_
  refine W.more (c2 := cells + 8) (s2 := slots + 2810) (by omega) (by omega) ?_
  exact hend kp L f2 S ls H locs ⟨hdr, hW2, rx, rk, hT2, hZ2⟩ hl
set_option maxHeartbeats 4000000 in
set_option maxRecDepth 100000 in
theorem law_case_14 (l : Launch) (G : va_G) (cI cJ cZ cD cR cT : ClassId) (σ : SE) (x k b Ls : Nat) (xs : Nat → Int32) (p : Program) (e : Env) (s : State) (m : MethodId) (below : List Frame) (meth : Method) (c : Code) (A : Nat → Prop) (Q : State → Prop) (i : Int32) (E : EV G cI cJ cZ cD cR cT A cL_law ret 4 RL p s m ([.ref b] : List Value).toArray meth c) (hSX : SX σ A s s.heap) (hCA : CA s) (hX : va_X b Ls xs s s.heap) (hbl : b < s.heap.size) (hbA : ¬ A b) (hi : 0 ≤ i.toInt ∧ i.toInt + 6 ≤ (Ls : Int) ∧ Ls ≤ 3072) (cells slots : Nat) (hc : cells + 8 ≤ room_1.cells) (hs : slots + 2810 ≤ room_1.slots) (kp : Nat → Nat) (L : List Nat) (f : Nat → va_E) (S : State) (ls : Array Slot) (H : Heap) (locs : List Loc) (hI : LWS G cI cJ cZ cD cR cT A kp L f x k s S H locs) (hl : lv_has ls 4 [(3, .int i), (2, .ref k), (1, .ref x), (0, .ref b)])
  (hend : ∀ (kp : Nat → Nat) (L : List Nat) (f : Nat → va_E) (S : State) (ls : Array Slot) (H : Heap) (locs : List Loc), LWS G cI cJ cZ cD cR cT A kp L f x k s S H locs → lv_has ls 4 [(3, .int i), (2, .ref k), (1, .ref x), (0, .ref b)] → W p l e room_1 S m ([.ref b] : List Value).toArray below meth c H locs (cells + 8) (slots + 2810) Q (F0 m 1677 ls [])) : W p l e room_1 S m ([.ref b] : List Value).toArray below meth c H locs cells slots Q (F0 m 698 ls []) := by
  obtain ⟨hdr, hW, rx, rk, hT, hZ⟩ := hI
  have hq := hs_S hdr
  have ES := ev_S E hdr
  have hXS := xx_S hdr hX
  have hTH := hW.2.2.2
  obtain ⟨hx, hb, -, hml, hown, hts, -, -, -⟩ := id ES
  have rx0 := rx
  have rk0 := rk
  refine lv_aload_n hx hb dL_law_698 rfl (lv_at hl 2 rfl) ?_
  refine law_arg (k := 1) hx hb hl hXS (by rw [hq]; exact hbl) hbA hW.2.2.1 hi rfl (by decide) dL_law_699 dL_law_700 dL_law_701 dL_law_702 dL_law_703 ?_
  refine law_arg (k := 2) hx hb hl hXS (by rw [hq]; exact hbl) hbA hW.2.2.1 hi rfl (by decide) dL_law_704 dL_law_705 dL_law_706 dL_law_707 dL_law_708 ?_
  refine law_arg (k := 3) hx hb hl hXS (by rw [hq]; exact hbl) hbA hW.2.2.1 hi rfl (by decide) dL_law_709 dL_law_710 dL_law_711 dL_law_712 dL_law_713 ?_
  refine law_arg (k := 4) hx hb hl hXS (by rw [hq]; exact hbl) hbA hW.2.2.1 hi rfl (by decide) dL_law_714 dL_law_715 dL_law_716 dL_law_717 dL_law_718 ?_
  refine law_arg (k := 5) hx hb hl hXS (by rw [hq]; exact hbl) hbA hW.2.2.1 hi rfl (by decide) dL_law_719 dL_law_720 dL_law_721 dL_law_722 dL_law_723 ?_
  refine t_callV (As := [.int (ag xs i 1), .int (ag xs i 2), .int (ag xs i 3), .int (ag xs i 4), .int (ag xs i 5)]) (rest := []) ES hW (c_X11_feed l G cI cJ cZ cD cR cT kp L f hW.2.2.2 _ x (ag xs i 1) (ag xs i 2) (ag xs i 3) (ag xs i 4) (ag xs i 5) rx) rx (by decide) rfl wk_X11_feed tw_847 rfl ⟨Nat.le_of_ble_eq_true rfl, Nat.le_of_ble_eq_true rfl⟩ ⟨rfl, rfl⟩ hl.1 rfl (Nat.le_of_ble_eq_true rfl) dL_law_724 ⟨by omega, by omega⟩ (fun v f1 H locs q hW1 => ?_)
  obtain ⟨⟨r1, rfl, p1⟩, g1⟩ := q
  have hT1 := txi_fm hTH hT g1 rk0 rfl rfl rfl rfl
  have hZ1 := tie_fm hTH hZ g1 rx0 rk0 rfl rfl rfl rfl rfl rfl
  have hW := hW1
  refine lv_pop hx hb dL_law_727 rfl ?_
  refine lv_aload_n hx hb dL_law_728 rfl (lv_at hl 1 rfl) ?_
  refine law_arg (k := 1) hx hb hl hXS (by rw [hq]; exact hbl) hbA hW.2.2.1 hi rfl (by decide) dL_law_729 dL_law_730 dL_law_731 dL_law_732 dL_law_733 ?_
  refine law_arg (k := 2) hx hb hl hXS (by rw [hq]; exact hbl) hbA hW.2.2.1 hi rfl (by decide) dL_law_734 dL_law_735 dL_law_736 dL_law_737 dL_law_738 ?_
  refine law_arg (k := 3) hx hb hl hXS (by rw [hq]; exact hbl) hbA hW.2.2.1 hi rfl (by decide) dL_law_739 dL_law_740 dL_law_741 dL_law_742 dL_law_743 ?_
  refine law_arg (k := 4) hx hb hl hXS (by rw [hq]; exact hbl) hbA hW.2.2.1 hi rfl (by decide) dL_law_744 dL_law_745 dL_law_746 dL_law_747 dL_law_748 ?_
  refine law_arg (k := 5) hx hb hl hXS (by rw [hq]; exact hbl) hbA hW.2.2.1 hi rfl (by decide) dL_law_749 dL_law_750 dL_law_751 dL_law_752 dL_law_753 ?_
  refine t_callV (As := [.int (ag xs i 1), .int (ag xs i 2), .int (ag xs i 3), .int (ag xs i 4), .int (ag xs i 5)]) (rest := []) ES hW1 (c_X12_feed l G cI cJ cZ cD cR cT kp L f1 hW1.2.2.2 _ k (ag xs i 1) (ag xs i 2) (ag xs i 3) (ag xs i 4) (ag xs i 5) rk) rk (by decide) rfl wk_X12_feed tw_1745 rfl ⟨Nat.le_of_ble_eq_true rfl, Nat.le_of_ble_eq_true rfl⟩ ⟨rfl, rfl⟩ hl.1 rfl (Nat.le_of_ble_eq_true rfl) dL_law_754 ⟨by omega, by omega⟩ (fun v f2 H locs q hW2 => ?_)
  obtain ⟨⟨r2, rfl, p2⟩, g2⟩ := q
  have hT2 := txi_fm hW1.2.2.2 hT1 g2 rk rfl rfl rfl rfl
  have hZ2 := tie_fm hW1.2.2.2 hZ1 g2 rx rk rfl rfl rfl rfl rfl rfl
  refine lv_pop hx hb dL_law_757 rfl ?_
  refine lv_goto (tgt := 1677) hx hb dL_law_758 (by decide) ?_
  refine W.more (c2 := cells + 8) (s2 := slots + 2810) (by omega) (by omega) ?_
  exact hend kp L f2 S ls H locs ⟨hdr, hW2, rx, rk, hT2, hZ2⟩ hl
set_option maxHeartbeats 4000000 in
set_option maxRecDepth 100000 in
theorem law_case_15 (l : Launch) (G : va_G) (cI cJ cZ cD cR cT : ClassId) (σ : SE) (x k b Ls : Nat) (xs : Nat → Int32) (p : Program) (e : Env) (s : State) (m : MethodId) (below : List Frame) (meth : Method) (c : Code) (A : Nat → Prop) (Q : State → Prop) (i : Int32) (E : EV G cI cJ cZ cD cR cT A cL_law ret 4 RL p s m ([.ref b] : List Value).toArray meth c) (hSX : SX σ A s s.heap) (hCA : CA s) (hX : va_X b Ls xs s s.heap) (hbl : b < s.heap.size) (hbA : ¬ A b) (hi : 0 ≤ i.toInt ∧ i.toInt + 6 ≤ (Ls : Int) ∧ Ls ≤ 3072) (cells slots : Nat) (hc : cells + 8 ≤ room_1.cells) (hs : slots + 2810 ≤ room_1.slots) (kp : Nat → Nat) (L : List Nat) (f : Nat → va_E) (S : State) (ls : Array Slot) (H : Heap) (locs : List Loc) (hI : LWS G cI cJ cZ cD cR cT A kp L f x k s S H locs) (hl : lv_has ls 4 [(3, .int i), (2, .ref k), (1, .ref x), (0, .ref b)])
  (hend : ∀ (kp : Nat → Nat) (L : List Nat) (f : Nat → va_E) (S : State) (ls : Array Slot) (H : Heap) (locs : List Loc), LWS G cI cJ cZ cD cR cT A kp L f x k s S H locs → lv_has ls 4 [(3, .int i), (2, .ref k), (1, .ref x), (0, .ref b)] → W p l e room_1 S m ([.ref b] : List Value).toArray below meth c H locs (cells + 8) (slots + 2810) Q (F0 m 1677 ls [])) : W p l e room_1 S m ([.ref b] : List Value).toArray below meth c H locs cells slots Q (F0 m 761 ls []) := by
  obtain ⟨hdr, hW, rx, rk, hT, hZ⟩ := hI
  have hq := hs_S hdr
  have ES := ev_S E hdr
  have hXS := xx_S hdr hX
  have hTH := hW.2.2.2
  obtain ⟨hx, hb, -, hml, hown, hts, -, -, -⟩ := id ES
  have rx0 := rx
  have rk0 := rk
  refine lv_aload_n hx hb dL_law_761 rfl (lv_at hl 2 rfl) ?_
  refine law_arg (k := 1) hx hb hl hXS (by rw [hq]; exact hbl) hbA hW.2.2.1 hi rfl (by decide) dL_law_762 dL_law_763 dL_law_764 dL_law_765 dL_law_766 ?_
  refine t_callV (As := [.int (ag xs i 1)]) (rest := []) ES hW (c_X11_end l G cI cJ cZ cD cR cT kp L f hW.2.2.2 _ x (ag xs i 1) rx) rx (by decide) rfl wk_X11_end tw_855 rfl ⟨Nat.le_of_ble_eq_true rfl, Nat.le_of_ble_eq_true rfl⟩ ⟨rfl, rfl⟩ hl.1 rfl (Nat.le_of_ble_eq_true rfl) dL_law_767 ⟨by omega, by omega⟩ (fun v f1 H locs q hW1 => ?_)
  obtain ⟨⟨r1, rfl, p1⟩, g1⟩ := q
  have hT1 := txi_fm hTH hT g1 rk0 rfl rfl rfl rfl
  have hZ1 := tie_fm hTH hZ g1 rx0 rk0 rfl rfl rfl rfl rfl rfl
  have hW := hW1
  refine lv_pop hx hb dL_law_770 rfl ?_
  refine lv_aload_n hx hb dL_law_771 rfl (lv_at hl 1 rfl) ?_
  refine law_arg (k := 1) hx hb hl hXS (by rw [hq]; exact hbl) hbA hW.2.2.1 hi rfl (by decide) dL_law_772 dL_law_773 dL_law_774 dL_law_775 dL_law_776 ?_
  refine t_callV (As := [.int (ag xs i 1)]) (rest := []) ES hW1 (c_X12_end l G cI cJ cZ cD cR cT kp L f1 hW1.2.2.2 _ k (ag xs i 1) rk) rk (by decide) rfl wk_X12_end tw_1753 rfl ⟨Nat.le_of_ble_eq_true rfl, Nat.le_of_ble_eq_true rfl⟩ ⟨rfl, rfl⟩ hl.1 rfl (Nat.le_of_ble_eq_true rfl) dL_law_777 ⟨by omega, by omega⟩ (fun v f2 H locs q hW2 => ?_)
  obtain ⟨⟨r2, rfl, p2⟩, g2⟩ := q
  have hT2 := txi_fm hW1.2.2.2 hT1 g2 rk rfl rfl rfl rfl
  have hZ2 := tie_fm hW1.2.2.2 hZ1 g2 rx rk rfl rfl rfl rfl rfl rfl
  refine lv_pop hx hb dL_law_780 rfl ?_
  refine lv_goto (tgt := 1677) hx hb dL_law_781 (by decide) ?_
  refine W.more (c2 := cells + 8) (s2 := slots + 2810) (by omega) (by omega) ?_
  exact hend kp L f2 S ls H locs ⟨hdr, hW2, rx, rk, hT2, hZ2⟩ hl
set_option maxHeartbeats 4000000 in
set_option maxRecDepth 100000 in
theorem law_case_16 (l : Launch) (G : va_G) (cI cJ cZ cD cR cT : ClassId) (σ : SE) (x k b Ls : Nat) (xs : Nat → Int32) (p : Program) (e : Env) (s : State) (m : MethodId) (below : List Frame) (meth : Method) (c : Code) (A : Nat → Prop) (Q : State → Prop) (i : Int32) (E : EV G cI cJ cZ cD cR cT A cL_law ret 4 RL p s m ([.ref b] : List Value).toArray meth c) (hSX : SX σ A s s.heap) (hCA : CA s) (hX : va_X b Ls xs s s.heap) (hbl : b < s.heap.size) (hbA : ¬ A b) (hi : 0 ≤ i.toInt ∧ i.toInt + 6 ≤ (Ls : Int) ∧ Ls ≤ 3072) (cells slots : Nat) (hc : cells + 8 ≤ room_1.cells) (hs : slots + 2810 ≤ room_1.slots) (kp : Nat → Nat) (L : List Nat) (f : Nat → va_E) (S : State) (ls : Array Slot) (H : Heap) (locs : List Loc) (hI : LWS G cI cJ cZ cD cR cT A kp L f x k s S H locs) (hl : lv_has ls 4 [(3, .int i), (2, .ref k), (1, .ref x), (0, .ref b)])
  (hend : ∀ (kp : Nat → Nat) (L : List Nat) (f : Nat → va_E) (S : State) (ls : Array Slot) (H : Heap) (locs : List Loc), LWS G cI cJ cZ cD cR cT A kp L f x k s S H locs → lv_has ls 4 [(3, .int i), (2, .ref k), (1, .ref x), (0, .ref b)] → W p l e room_1 S m ([.ref b] : List Value).toArray below meth c H locs (cells + 8) (slots + 2810) Q (F0 m 1677 ls [])) : W p l e room_1 S m ([.ref b] : List Value).toArray below meth c H locs cells slots Q (F0 m 784 ls []) := by
  obtain ⟨hdr, hW, rx, rk, hT, hZ⟩ := hI
  have hq := hs_S hdr
  have ES := ev_S E hdr
  have hXS := xx_S hdr hX
  have hTH := hW.2.2.2
  obtain ⟨hx, hb, -, hml, hown, hts, -, -, -⟩ := id ES
  have rx0 := rx
  have rk0 := rk
  refine lv_aload_n hx hb dL_law_784 rfl (lv_at hl 2 rfl) ?_
  refine law_arg (k := 1) hx hb hl hXS (by rw [hq]; exact hbl) hbA hW.2.2.1 hi rfl (by decide) dL_law_785 dL_law_786 dL_law_787 dL_law_788 dL_law_789 ?_
  refine t_callVSC (As := [.int (ag xs i 1)]) (rest := []) ES (sx_S hdr hSX) (ca_S hdr hCA) hW (c_X11_text l G cI cJ cZ cD cR cT kp L f hW.2.2.2 _ σ x (ag xs i 1) rx) rx (by decide) rfl wk_X11_text tw_859 rfl ⟨Nat.le_of_ble_eq_true rfl, Nat.le_of_ble_eq_true rfl⟩ ⟨rfl, rfl⟩ hl.1 rfl (Nat.le_of_ble_eq_true rfl) dL_law_790 ⟨by omega, by omega⟩ (fun v kp1 L1 f1 H locs hE q hW1 => ?_)
  obtain ⟨⟨r1, rfl⟩, g1⟩ := q
  have hT1 := txi_fm hTH hT g1 rk0 rfl rfl rfl rfl
  have rx := hE _ _ rx
  have rk := hE _ _ rk
  have hZ1 := tie_fm hTH hZ g1 rx0 rk0 rfl rfl rfl rfl rfl rfl
  have hW := hW1
  refine lv_pop hx hb dL_law_793 rfl ?_
  refine lv_aload_n hx hb dL_law_794 rfl (lv_at hl 1 rfl) ?_
  refine law_arg (k := 1) hx hb hl hXS (by rw [hq]; exact hbl) hbA hW.2.2.1 hi rfl (by decide) dL_law_795 dL_law_796 dL_law_797 dL_law_798 dL_law_799 ?_
  refine t_callV (As := [.int (ag xs i 1)]) (rest := []) ES hW1 (c_X12_text l G cI cJ cZ cD cR cT kp1 L1 f1 hW1.2.2.2 _ k (ag xs i 1) rk hT1.1) rk (by decide) rfl wk_X12_text tw_1761 rfl ⟨Nat.le_of_ble_eq_true rfl, Nat.le_of_ble_eq_true rfl⟩ ⟨rfl, rfl⟩ hl.1 rfl (Nat.le_of_ble_eq_true rfl) dL_law_800 ⟨by omega, by omega⟩ (fun v f2 H locs q hW2 => ?_)
  obtain ⟨⟨r2, rfl, -⟩, g2, hY, hR⟩ := q
  have hT2 := txi_tx hW1.2.2.2 hT1 g2 rk rfl rfl rfl hY
  have hZ2 := tie_row hW1.2.2.2 hZ1 g2 rx rk rfl rfl rfl rfl rfl (r8_rf rk g2 rfl hR (by decide +kernel) (by decide +kernel))
  refine lv_pop hx hb dL_law_803 rfl ?_
  refine lv_goto (tgt := 1677) hx hb dL_law_804 (by decide) ?_
  refine W.more (c2 := cells + 8) (s2 := slots + 2810) (by omega) (by omega) ?_
  exact hend kp1 L1 f2 S ls H locs ⟨hdr, hW2, rx, rk, hT2, hZ2⟩ hl
set_option maxHeartbeats 4000000 in
set_option maxRecDepth 100000 in
theorem law_case_17 (l : Launch) (G : va_G) (cI cJ cZ cD cR cT : ClassId) (σ : SE) (x k b Ls : Nat) (xs : Nat → Int32) (p : Program) (e : Env) (s : State) (m : MethodId) (below : List Frame) (meth : Method) (c : Code) (A : Nat → Prop) (Q : State → Prop) (i : Int32) (E : EV G cI cJ cZ cD cR cT A cL_law ret 4 RL p s m ([.ref b] : List Value).toArray meth c) (hSX : SX σ A s s.heap) (hCA : CA s) (hX : va_X b Ls xs s s.heap) (hbl : b < s.heap.size) (hbA : ¬ A b) (hi : 0 ≤ i.toInt ∧ i.toInt + 6 ≤ (Ls : Int) ∧ Ls ≤ 3072) (cells slots : Nat) (hc : cells + 8 ≤ room_1.cells) (hs : slots + 2810 ≤ room_1.slots) (kp : Nat → Nat) (L : List Nat) (f : Nat → va_E) (S : State) (ls : Array Slot) (H : Heap) (locs : List Loc) (hI : LWS G cI cJ cZ cD cR cT A kp L f x k s S H locs) (hl : lv_has ls 4 [(3, .int i), (2, .ref k), (1, .ref x), (0, .ref b)])
  (hend : ∀ (kp : Nat → Nat) (L : List Nat) (f : Nat → va_E) (S : State) (ls : Array Slot) (H : Heap) (locs : List Loc), LWS G cI cJ cZ cD cR cT A kp L f x k s S H locs → lv_has ls 4 [(3, .int i), (2, .ref k), (1, .ref x), (0, .ref b)] → W p l e room_1 S m ([.ref b] : List Value).toArray below meth c H locs (cells + 8) (slots + 2810) Q (F0 m 1677 ls [])) : W p l e room_1 S m ([.ref b] : List Value).toArray below meth c H locs cells slots Q (F0 m 807 ls []) := by
  obtain ⟨hdr, hW, rx, rk, hT, hZ⟩ := hI
  have hq := hs_S hdr
  have ES := ev_S E hdr
  have hXS := xx_S hdr hX
  have hTH := hW.2.2.2
  obtain ⟨hx, hb, -, hml, hown, hts, -, -, -⟩ := id ES
  have rx0 := rx
  have rk0 := rk
  refine lv_aload_n hx hb dL_law_807 rfl (lv_at hl 2 rfl) ?_
  refine t_callV (As := []) (rest := []) ES hW (c_X11_fault l G cI cJ cZ cD cR cT kp L f hW.2.2.2 _ x  rx) rx (by decide) rfl wk_X11_fault tw_1054 rfl ⟨Nat.le_of_ble_eq_true rfl, Nat.le_of_ble_eq_true rfl⟩ ⟨rfl, rfl⟩ hl.1 rfl (Nat.le_of_ble_eq_true rfl) dL_law_808 ⟨by omega, by omega⟩ (fun v f1 H locs q hW1 => ?_)
  obtain ⟨⟨r1, rfl, p1⟩, g1⟩ := q
  have hT1 := txi_fm hTH hT g1 rk0 rfl rfl rfl rfl
  have hZ1 := tie_fm hTH hZ g1 rx0 rk0 rfl rfl rfl rfl rfl rfl
  have hW := hW1
  refine lv_pop hx hb dL_law_811 rfl ?_
  refine lv_aload_n hx hb dL_law_812 rfl (lv_at hl 1 rfl) ?_
  refine t_callV (As := []) (rest := []) ES hW1 (c_X12_fault l G cI cJ cZ cD cR cT kp L f1 hW1.2.2.2 _ k  rk) rk (by decide) rfl wk_X12_fault tw_1757 rfl ⟨Nat.le_of_ble_eq_true rfl, Nat.le_of_ble_eq_true rfl⟩ ⟨rfl, rfl⟩ hl.1 rfl (Nat.le_of_ble_eq_true rfl) dL_law_813 ⟨by omega, by omega⟩ (fun v f2 H locs q hW2 => ?_)
  obtain ⟨⟨r2, rfl, p2⟩, g2⟩ := q
  have hT2 := txi_fm hW1.2.2.2 hT1 g2 rk rfl rfl rfl rfl
  have hZ2 := tie_fm hW1.2.2.2 hZ1 g2 rx rk rfl rfl rfl rfl rfl rfl
  refine lv_pop hx hb dL_law_816 rfl ?_
  refine lv_goto (tgt := 1677) hx hb dL_law_817 (by decide) ?_
  refine W.more (c2 := cells + 8) (s2 := slots + 2810) (by omega) (by omega) ?_
  exact hend kp L f2 S ls H locs ⟨hdr, hW2, rx, rk, hT2, hZ2⟩ hl
set_option maxHeartbeats 4000000 in
set_option maxRecDepth 100000 in
theorem law_case_18 (l : Launch) (G : va_G) (cI cJ cZ cD cR cT : ClassId) (σ : SE) (x k b Ls : Nat) (xs : Nat → Int32) (p : Program) (e : Env) (s : State) (m : MethodId) (below : List Frame) (meth : Method) (c : Code) (A : Nat → Prop) (Q : State → Prop) (i : Int32) (E : EV G cI cJ cZ cD cR cT A cL_law ret 4 RL p s m ([.ref b] : List Value).toArray meth c) (hSX : SX σ A s s.heap) (hCA : CA s) (hX : va_X b Ls xs s s.heap) (hbl : b < s.heap.size) (hbA : ¬ A b) (hi : 0 ≤ i.toInt ∧ i.toInt + 6 ≤ (Ls : Int) ∧ Ls ≤ 3072) (cells slots : Nat) (hc : cells + 8 ≤ room_1.cells) (hs : slots + 2810 ≤ room_1.slots) (kp : Nat → Nat) (L : List Nat) (f : Nat → va_E) (S : State) (ls : Array Slot) (H : Heap) (locs : List Loc) (hI : LWS G cI cJ cZ cD cR cT A kp L f x k s S H locs) (hl : lv_has ls 4 [(3, .int i), (2, .ref k), (1, .ref x), (0, .ref b)])
  (hend : ∀ (kp : Nat → Nat) (L : List Nat) (f : Nat → va_E) (S : State) (ls : Array Slot) (H : Heap) (locs : List Loc), LWS G cI cJ cZ cD cR cT A kp L f x k s S H locs → lv_has ls 4 [(3, .int i), (2, .ref k), (1, .ref x), (0, .ref b)] → W p l e room_1 S m ([.ref b] : List Value).toArray below meth c H locs (cells + 8) (slots + 2810) Q (F0 m 1677 ls [])) : W p l e room_1 S m ([.ref b] : List Value).toArray below meth c H locs cells slots Q (F0 m 820 ls []) := by
  obtain ⟨hdr, hW, rx, rk, hT, hZ⟩ := hI
  have hq := hs_S hdr
  have ES := ev_S E hdr
  have hXS := xx_S hdr hX
  have hTH := hW.2.2.2
  obtain ⟨hx, hb, -, hml, hown, hts, -, -, -⟩ := id ES
  have rx0 := rx
  have rk0 := rk
  refine lv_aload_n hx hb dL_law_820 rfl (lv_at hl 2 rfl) ?_
  refine law_arg (k := 1) hx hb hl hXS (by rw [hq]; exact hbl) hbA hW.2.2.1 hi rfl (by decide) dL_law_821 dL_law_822 dL_law_823 dL_law_824 dL_law_825 ?_
  refine law_arg (k := 2) hx hb hl hXS (by rw [hq]; exact hbl) hbA hW.2.2.1 hi rfl (by decide) dL_law_826 dL_law_827 dL_law_828 dL_law_829 dL_law_830 ?_
  refine law_arg (k := 3) hx hb hl hXS (by rw [hq]; exact hbl) hbA hW.2.2.1 hi rfl (by decide) dL_law_831 dL_law_832 dL_law_833 dL_law_834 dL_law_835 ?_
  refine t_callV (As := [.int (ag xs i 1), .int (ag xs i 2), .int (ag xs i 3)]) (rest := []) ES hW (c_X11_force l G cI cJ cZ cD cR cT kp L f hW.2.2.2 _ x (ag xs i 1) (ag xs i 2) (ag xs i 3) rx) rx (by decide) rfl wk_X11_force tw_1058 rfl ⟨Nat.le_of_ble_eq_true rfl, Nat.le_of_ble_eq_true rfl⟩ ⟨rfl, rfl⟩ hl.1 rfl (Nat.le_of_ble_eq_true rfl) dL_law_836 ⟨by omega, by omega⟩ (fun v f1 H locs q hW1 => ?_)
  obtain ⟨⟨r1, rfl, p1⟩, g1⟩ := q
  have hT1 := txi_fm hTH hT g1 rk0 rfl rfl rfl rfl
  have hZ1 := tie_fm hTH hZ g1 rx0 rk0 rfl rfl rfl rfl rfl rfl
  have hW := hW1
  refine lv_pop hx hb dL_law_839 rfl ?_
  refine lv_aload_n hx hb dL_law_840 rfl (lv_at hl 1 rfl) ?_
  refine law_arg (k := 1) hx hb hl hXS (by rw [hq]; exact hbl) hbA hW.2.2.1 hi rfl (by decide) dL_law_841 dL_law_842 dL_law_843 dL_law_844 dL_law_845 ?_
  refine law_arg (k := 2) hx hb hl hXS (by rw [hq]; exact hbl) hbA hW.2.2.1 hi rfl (by decide) dL_law_846 dL_law_847 dL_law_848 dL_law_849 dL_law_850 ?_
  refine law_arg (k := 3) hx hb hl hXS (by rw [hq]; exact hbl) hbA hW.2.2.1 hi rfl (by decide) dL_law_851 dL_law_852 dL_law_853 dL_law_854 dL_law_855 ?_
  refine t_callV (As := [.int (ag xs i 1), .int (ag xs i 2), .int (ag xs i 3)]) (rest := []) ES hW1 (c_X12_force l G cI cJ cZ cD cR cT kp L f1 hW1.2.2.2 _ k (ag xs i 1) (ag xs i 2) (ag xs i 3) rk hT1.1) rk (by decide) rfl wk_X12_force tw_1905 rfl ⟨Nat.le_of_ble_eq_true rfl, Nat.le_of_ble_eq_true rfl⟩ ⟨rfl, rfl⟩ hl.1 rfl (Nat.le_of_ble_eq_true rfl) dL_law_856 ⟨by omega, by omega⟩ (fun v f2 H locs q hW2 => ?_)
  obtain ⟨⟨r2, rfl, p2⟩, g2⟩ := q
  have hT2 := txi_fm hW1.2.2.2 hT1 g2 rk rfl rfl rfl rfl
  have hZ2 := tie_fm hW1.2.2.2 hZ1 g2 rx rk rfl rfl rfl rfl rfl rfl
  refine lv_pop hx hb dL_law_859 rfl ?_
  refine lv_goto (tgt := 1677) hx hb dL_law_860 (by decide) ?_
  refine W.more (c2 := cells + 8) (s2 := slots + 2810) (by omega) (by omega) ?_
  exact hend kp L f2 S ls H locs ⟨hdr, hW2, rx, rk, hT2, hZ2⟩ hl
set_option maxHeartbeats 4000000 in
set_option maxRecDepth 100000 in
theorem law_case_19 (l : Launch) (G : va_G) (cI cJ cZ cD cR cT : ClassId) (σ : SE) (x k b Ls : Nat) (xs : Nat → Int32) (p : Program) (e : Env) (s : State) (m : MethodId) (below : List Frame) (meth : Method) (c : Code) (A : Nat → Prop) (Q : State → Prop) (i : Int32) (E : EV G cI cJ cZ cD cR cT A cL_law ret 4 RL p s m ([.ref b] : List Value).toArray meth c) (hSX : SX σ A s s.heap) (hCA : CA s) (hX : va_X b Ls xs s s.heap) (hbl : b < s.heap.size) (hbA : ¬ A b) (hi : 0 ≤ i.toInt ∧ i.toInt + 6 ≤ (Ls : Int) ∧ Ls ≤ 3072) (cells slots : Nat) (hc : cells + 8 ≤ room_1.cells) (hs : slots + 2810 ≤ room_1.slots) (kp : Nat → Nat) (L : List Nat) (f : Nat → va_E) (S : State) (ls : Array Slot) (H : Heap) (locs : List Loc) (hI : LWS G cI cJ cZ cD cR cT A kp L f x k s S H locs) (hl : lv_has ls 4 [(3, .int i), (2, .ref k), (1, .ref x), (0, .ref b)])
  (hend : ∀ (kp : Nat → Nat) (L : List Nat) (f : Nat → va_E) (S : State) (ls : Array Slot) (H : Heap) (locs : List Loc), LWS G cI cJ cZ cD cR cT A kp L f x k s S H locs → lv_has ls 4 [(3, .int i), (2, .ref k), (1, .ref x), (0, .ref b)] → W p l e room_1 S m ([.ref b] : List Value).toArray below meth c H locs (cells + 8) (slots + 2810) Q (F0 m 1677 ls [])) : W p l e room_1 S m ([.ref b] : List Value).toArray below meth c H locs cells slots Q (F0 m 863 ls []) := by
  obtain ⟨hdr, hW, rx, rk, hT, hZ⟩ := hI
  have hq := hs_S hdr
  have ES := ev_S E hdr
  have hXS := xx_S hdr hX
  have hTH := hW.2.2.2
  obtain ⟨hx, hb, -, hml, hown, hts, -, -, -⟩ := id ES
  have rx0 := rx
  have rk0 := rk
  refine lv_aload_n hx hb dL_law_863 rfl (lv_at hl 2 rfl) ?_
  refine law_arg (k := 1) hx hb hl hXS (by rw [hq]; exact hbl) hbA hW.2.2.1 hi rfl (by decide) dL_law_864 dL_law_865 dL_law_866 dL_law_867 dL_law_868 ?_
  refine law_arg (k := 2) hx hb hl hXS (by rw [hq]; exact hbl) hbA hW.2.2.1 hi rfl (by decide) dL_law_869 dL_law_870 dL_law_871 dL_law_872 dL_law_873 ?_
  refine law_arg (k := 3) hx hb hl hXS (by rw [hq]; exact hbl) hbA hW.2.2.1 hi rfl (by decide) dL_law_874 dL_law_875 dL_law_876 dL_law_877 dL_law_878 ?_
  refine law_arg (k := 4) hx hb hl hXS (by rw [hq]; exact hbl) hbA hW.2.2.1 hi rfl (by decide) dL_law_879 dL_law_880 dL_law_881 dL_law_882 dL_law_883 ?_
  refine t_callV (As := [.int (ag xs i 1), .int (ag xs i 2), .int (ag xs i 3), .int (ag xs i 4)]) (rest := []) ES hW (c_X11_holds l G cI cJ cZ cD cR cT kp L f hW.2.2.2 _ x (ag xs i 1) (ag xs i 2) (ag xs i 3) (ag xs i 4) rx) rx (by decide) rfl wk_X11_holds tw_1068 rfl ⟨Nat.le_of_ble_eq_true rfl, Nat.le_of_ble_eq_true rfl⟩ ⟨rfl, rfl⟩ hl.1 rfl (Nat.le_of_ble_eq_true rfl) dL_law_884 ⟨by omega, by omega⟩ (fun v f1 H locs q hW1 => ?_)
  obtain ⟨⟨r1, rfl, p1⟩, g1⟩ := q
  have hT1 := txi_fm hTH hT g1 rk0 rfl rfl rfl rfl
  have hZ1 := tie_fm hTH hZ g1 rx0 rk0 rfl rfl rfl rfl rfl rfl
  have hW := hW1
  refine lv_pop hx hb dL_law_887 rfl ?_
  refine lv_aload_n hx hb dL_law_888 rfl (lv_at hl 1 rfl) ?_
  refine law_arg (k := 1) hx hb hl hXS (by rw [hq]; exact hbl) hbA hW.2.2.1 hi rfl (by decide) dL_law_889 dL_law_890 dL_law_891 dL_law_892 dL_law_893 ?_
  refine law_arg (k := 2) hx hb hl hXS (by rw [hq]; exact hbl) hbA hW.2.2.1 hi rfl (by decide) dL_law_894 dL_law_895 dL_law_896 dL_law_897 dL_law_898 ?_
  refine law_arg (k := 3) hx hb hl hXS (by rw [hq]; exact hbl) hbA hW.2.2.1 hi rfl (by decide) dL_law_899 dL_law_900 dL_law_901 dL_law_902 dL_law_903 ?_
  refine law_arg (k := 4) hx hb hl hXS (by rw [hq]; exact hbl) hbA hW.2.2.1 hi rfl (by decide) dL_law_904 dL_law_905 dL_law_906 dL_law_907 dL_law_908 ?_
  refine t_callV (As := [.int (ag xs i 1), .int (ag xs i 2), .int (ag xs i 3), .int (ag xs i 4)]) (rest := []) ES hW1 (c_X12_holds l G cI cJ cZ cD cR cT kp L f1 hW1.2.2.2 _ k (ag xs i 1) (ag xs i 2) (ag xs i 3) (ag xs i 4) rk hT1.1) rk (by decide) rfl wk_X12_holds tw_1909 rfl ⟨Nat.le_of_ble_eq_true rfl, Nat.le_of_ble_eq_true rfl⟩ ⟨rfl, rfl⟩ hl.1 rfl (Nat.le_of_ble_eq_true rfl) dL_law_909 ⟨by omega, by omega⟩ (fun v f2 H locs q hW2 => ?_)
  obtain ⟨⟨r2, rfl, p2⟩, g2⟩ := q
  have hT2 := txi_fm hW1.2.2.2 hT1 g2 rk rfl rfl rfl rfl
  have hZ2 := tie_fm hW1.2.2.2 hZ1 g2 rx rk rfl rfl rfl rfl rfl rfl
  refine lv_pop hx hb dL_law_912 rfl ?_
  refine lv_goto (tgt := 1677) hx hb dL_law_913 (by decide) ?_
  refine W.more (c2 := cells + 8) (s2 := slots + 2810) (by omega) (by omega) ?_
  exact hend kp L f2 S ls H locs ⟨hdr, hW2, rx, rk, hT2, hZ2⟩ hl
set_option maxHeartbeats 4000000 in
set_option maxRecDepth 100000 in
theorem law_case_20 (l : Launch) (G : va_G) (cI cJ cZ cD cR cT : ClassId) (σ : SE) (x k b Ls : Nat) (xs : Nat → Int32) (p : Program) (e : Env) (s : State) (m : MethodId) (below : List Frame) (meth : Method) (c : Code) (A : Nat → Prop) (Q : State → Prop) (i : Int32) (E : EV G cI cJ cZ cD cR cT A cL_law ret 4 RL p s m ([.ref b] : List Value).toArray meth c) (hSX : SX σ A s s.heap) (hCA : CA s) (hX : va_X b Ls xs s s.heap) (hbl : b < s.heap.size) (hbA : ¬ A b) (hi : 0 ≤ i.toInt ∧ i.toInt + 6 ≤ (Ls : Int) ∧ Ls ≤ 3072) (cells slots : Nat) (hc : cells + 8 ≤ room_1.cells) (hs : slots + 2810 ≤ room_1.slots) (kp : Nat → Nat) (L : List Nat) (f : Nat → va_E) (S : State) (ls : Array Slot) (H : Heap) (locs : List Loc) (hI : LWS G cI cJ cZ cD cR cT A kp L f x k s S H locs) (hl : lv_has ls 4 [(3, .int i), (2, .ref k), (1, .ref x), (0, .ref b)])
  (hend : ∀ (kp : Nat → Nat) (L : List Nat) (f : Nat → va_E) (S : State) (ls : Array Slot) (H : Heap) (locs : List Loc), LWS G cI cJ cZ cD cR cT A kp L f x k s S H locs → lv_has ls 4 [(3, .int i), (2, .ref k), (1, .ref x), (0, .ref b)] → W p l e room_1 S m ([.ref b] : List Value).toArray below meth c H locs (cells + 8) (slots + 2810) Q (F0 m 1677 ls [])) : W p l e room_1 S m ([.ref b] : List Value).toArray below meth c H locs cells slots Q (F0 m 916 ls []) := by
  obtain ⟨hdr, hW, rx, rk, hT, hZ⟩ := hI
  have hq := hs_S hdr
  have ES := ev_S E hdr
  have hXS := xx_S hdr hX
  have hTH := hW.2.2.2
  obtain ⟨hx, hb, -, hml, hown, hts, -, -, -⟩ := id ES
  have rx0 := rx
  have rk0 := rk
  refine lv_aload_n hx hb dL_law_916 rfl (lv_at hl 2 rfl) ?_
  refine law_arg (k := 1) hx hb hl hXS (by rw [hq]; exact hbl) hbA hW.2.2.1 hi rfl (by decide) dL_law_917 dL_law_918 dL_law_919 dL_law_920 dL_law_921 ?_
  refine t_callV (As := [.int (ag xs i 1)]) (rest := []) ES hW (c_X11_writ l G cI cJ cZ cD cR cT kp L f hW.2.2.2 _ x (ag xs i 1) rx) rx (by decide) rfl wk_X11_writ tw_1076 rfl ⟨Nat.le_of_ble_eq_true rfl, Nat.le_of_ble_eq_true rfl⟩ ⟨rfl, rfl⟩ hl.1 rfl (Nat.le_of_ble_eq_true rfl) dL_law_922 ⟨by omega, by omega⟩ (fun v f1 H locs q hW1 => ?_)
  obtain ⟨⟨r1, rfl, p1⟩, g1⟩ := q
  have hT1 := txi_fm hTH hT g1 rk0 rfl rfl rfl rfl
  have hZ1 := tie_fm hTH hZ g1 rx0 rk0 rfl rfl rfl rfl rfl rfl
  have hW := hW1
  refine lv_pop hx hb dL_law_925 rfl ?_
  refine lv_aload_n hx hb dL_law_926 rfl (lv_at hl 1 rfl) ?_
  refine law_arg (k := 1) hx hb hl hXS (by rw [hq]; exact hbl) hbA hW.2.2.1 hi rfl (by decide) dL_law_927 dL_law_928 dL_law_929 dL_law_930 dL_law_931 ?_
  refine t_callV (As := [.int (ag xs i 1)]) (rest := []) ES hW1 (c_X12_writ_u l G cI cJ cZ cD cR cT kp L f1 hW1.2.2.2 _ k (ag xs i 1) rk hT1.1) rk (by decide) rfl wk_X12_writ tw_1950 rfl ⟨Nat.le_of_ble_eq_true rfl, Nat.le_of_ble_eq_true rfl⟩ ⟨rfl, rfl⟩ hl.1 rfl (Nat.le_of_ble_eq_true rfl) dL_law_932 ⟨by omega, by omega⟩ (fun v f2 H locs q hW2 => ?_)
  obtain ⟨⟨r2, rfl, p2⟩, g2, hP, hR⟩ := q
  have hT2 := txi_rf hW1.2.2.2 hT1 g2 rk rfl rfl rfl hR (by decide) (by decide)
  have hZ2 := tie_row hW1.2.2.2 hZ1 g2 rx rk rfl rfl rfl rfl rfl (r8_pl rk g2 rfl hR (by decide +kernel) hP)
  refine lv_pop hx hb dL_law_935 rfl ?_
  refine lv_goto (tgt := 1677) hx hb dL_law_936 (by decide) ?_
  refine W.more (c2 := cells + 8) (s2 := slots + 2810) (by omega) (by omega) ?_
  exact hend kp L f2 S ls H locs ⟨hdr, hW2, rx, rk, hT2, hZ2⟩ hl
set_option maxHeartbeats 4000000 in
set_option maxRecDepth 100000 in
theorem law_case_21 (l : Launch) (G : va_G) (cI cJ cZ cD cR cT : ClassId) (σ : SE) (x k b Ls : Nat) (xs : Nat → Int32) (p : Program) (e : Env) (s : State) (m : MethodId) (below : List Frame) (meth : Method) (c : Code) (A : Nat → Prop) (Q : State → Prop) (i : Int32) (E : EV G cI cJ cZ cD cR cT A cL_law ret 4 RL p s m ([.ref b] : List Value).toArray meth c) (hSX : SX σ A s s.heap) (hCA : CA s) (hX : va_X b Ls xs s s.heap) (hbl : b < s.heap.size) (hbA : ¬ A b) (hi : 0 ≤ i.toInt ∧ i.toInt + 6 ≤ (Ls : Int) ∧ Ls ≤ 3072) (cells slots : Nat) (hc : cells + 8 ≤ room_1.cells) (hs : slots + 2810 ≤ room_1.slots) (kp : Nat → Nat) (L : List Nat) (f : Nat → va_E) (S : State) (ls : Array Slot) (H : Heap) (locs : List Loc) (hI : LWS G cI cJ cZ cD cR cT A kp L f x k s S H locs) (hl : lv_has ls 4 [(3, .int i), (2, .ref k), (1, .ref x), (0, .ref b)])
  (hend : ∀ (kp : Nat → Nat) (L : List Nat) (f : Nat → va_E) (S : State) (ls : Array Slot) (H : Heap) (locs : List Loc), LWS G cI cJ cZ cD cR cT A kp L f x k s S H locs → lv_has ls 4 [(3, .int i), (2, .ref k), (1, .ref x), (0, .ref b)] → W p l e room_1 S m ([.ref b] : List Value).toArray below meth c H locs (cells + 8) (slots + 2810) Q (F0 m 1677 ls [])) : W p l e room_1 S m ([.ref b] : List Value).toArray below meth c H locs cells slots Q (F0 m 939 ls []) := by
  obtain ⟨hdr, hW, rx, rk, hT, hZ⟩ := hI
  have hq := hs_S hdr
  have ES := ev_S E hdr
  have hXS := xx_S hdr hX
  have hTH := hW.2.2.2
  obtain ⟨hx, hb, -, hml, hown, hts, -, -, -⟩ := id ES
  have rx0 := rx
  have rk0 := rk
  refine lv_aload_n hx hb dL_law_939 rfl (lv_at hl 2 rfl) ?_
  refine law_arg (k := 1) hx hb hl hXS (by rw [hq]; exact hbl) hbA hW.2.2.1 hi rfl (by decide) dL_law_940 dL_law_941 dL_law_942 dL_law_943 dL_law_944 ?_
  refine t_callV (As := [.int (ag xs i 1)]) (rest := []) ES hW (c_X11_avoid l G cI cJ cZ cD cR cT kp L f hW.2.2.2 _ x (ag xs i 1) rx) rx (by decide) rfl wk_X11_avoid tw_1089 rfl ⟨Nat.le_of_ble_eq_true rfl, Nat.le_of_ble_eq_true rfl⟩ ⟨rfl, rfl⟩ hl.1 rfl (Nat.le_of_ble_eq_true rfl) dL_law_945 ⟨by omega, by omega⟩ (fun v f1 H locs q hW1 => ?_)
  obtain ⟨⟨r1, rfl, p1⟩, g1⟩ := q
  have hT1 := txi_fm hTH hT g1 rk0 rfl rfl rfl rfl
  have hZ1 := tie_fm hTH hZ g1 rx0 rk0 rfl rfl rfl rfl rfl rfl
  have hW := hW1
  refine lv_pop hx hb dL_law_948 rfl ?_
  refine lv_aload_n hx hb dL_law_949 rfl (lv_at hl 1 rfl) ?_
  refine law_arg (k := 1) hx hb hl hXS (by rw [hq]; exact hbl) hbA hW.2.2.1 hi rfl (by decide) dL_law_950 dL_law_951 dL_law_952 dL_law_953 dL_law_954 ?_
  refine t_callV (As := [.int (ag xs i 1)]) (rest := []) ES hW1 (c_X12_avoid l G cI cJ cZ cD cR cT kp L f1 hW1.2.2.2 _ k (ag xs i 1) rk) rk (by decide) rfl wk_X12_avoid tw_1954 rfl ⟨Nat.le_of_ble_eq_true rfl, Nat.le_of_ble_eq_true rfl⟩ ⟨rfl, rfl⟩ hl.1 rfl (Nat.le_of_ble_eq_true rfl) dL_law_955 ⟨by omega, by omega⟩ (fun v f2 H locs q hW2 => ?_)
  obtain ⟨⟨r2, rfl, p2⟩, g2, hR⟩ := q
  have hT2 := txi_rf hW1.2.2.2 hT1 g2 rk rfl rfl rfl hR (by decide) (by decide)
  have hZ2 := tie_row hW1.2.2.2 hZ1 g2 rx rk rfl rfl rfl rfl rfl (r8_rf rk g2 rfl hR (by decide +kernel) (by decide +kernel))
  refine lv_pop hx hb dL_law_958 rfl ?_
  refine lv_goto (tgt := 1677) hx hb dL_law_959 (by decide) ?_
  refine W.more (c2 := cells + 8) (s2 := slots + 2810) (by omega) (by omega) ?_
  exact hend kp L f2 S ls H locs ⟨hdr, hW2, rx, rk, hT2, hZ2⟩ hl
set_option maxHeartbeats 4000000 in
set_option maxRecDepth 100000 in
theorem law_case_22 (l : Launch) (G : va_G) (cI cJ cZ cD cR cT : ClassId) (σ : SE) (x k b Ls : Nat) (xs : Nat → Int32) (p : Program) (e : Env) (s : State) (m : MethodId) (below : List Frame) (meth : Method) (c : Code) (A : Nat → Prop) (Q : State → Prop) (i : Int32) (E : EV G cI cJ cZ cD cR cT A cL_law ret 4 RL p s m ([.ref b] : List Value).toArray meth c) (hSX : SX σ A s s.heap) (hCA : CA s) (hX : va_X b Ls xs s s.heap) (hbl : b < s.heap.size) (hbA : ¬ A b) (hi : 0 ≤ i.toInt ∧ i.toInt + 6 ≤ (Ls : Int) ∧ Ls ≤ 3072) (cells slots : Nat) (hc : cells + 8 ≤ room_1.cells) (hs : slots + 2810 ≤ room_1.slots) (kp : Nat → Nat) (L : List Nat) (f : Nat → va_E) (S : State) (ls : Array Slot) (H : Heap) (locs : List Loc) (hI : LWS G cI cJ cZ cD cR cT A kp L f x k s S H locs) (hl : lv_has ls 4 [(3, .int i), (2, .ref k), (1, .ref x), (0, .ref b)])
  (hend : ∀ (kp : Nat → Nat) (L : List Nat) (f : Nat → va_E) (S : State) (ls : Array Slot) (H : Heap) (locs : List Loc), LWS G cI cJ cZ cD cR cT A kp L f x k s S H locs → lv_has ls 4 [(3, .int i), (2, .ref k), (1, .ref x), (0, .ref b)] → W p l e room_1 S m ([.ref b] : List Value).toArray below meth c H locs (cells + 8) (slots + 2810) Q (F0 m 1677 ls [])) : W p l e room_1 S m ([.ref b] : List Value).toArray below meth c H locs cells slots Q (F0 m 962 ls []) := by
  obtain ⟨hdr, hW, rx, rk, hT, hZ⟩ := hI
  have hq := hs_S hdr
  have ES := ev_S E hdr
  have hXS := xx_S hdr hX
  have hTH := hW.2.2.2
  obtain ⟨hx, hb, -, hml, hown, hts, -, -, -⟩ := id ES
  have rx0 := rx
  have rk0 := rk
  refine lv_aload_n hx hb dL_law_962 rfl (lv_at hl 2 rfl) ?_
  refine law_arg (k := 1) hx hb hl hXS (by rw [hq]; exact hbl) hbA hW.2.2.1 hi rfl (by decide) dL_law_963 dL_law_964 dL_law_965 dL_law_966 dL_law_967 ?_
  refine law_arg (k := 2) hx hb hl hXS (by rw [hq]; exact hbl) hbA hW.2.2.1 hi rfl (by decide) dL_law_968 dL_law_969 dL_law_970 dL_law_971 dL_law_972 ?_
  refine law_arg (k := 3) hx hb hl hXS (by rw [hq]; exact hbl) hbA hW.2.2.1 hi rfl (by decide) dL_law_973 dL_law_974 dL_law_975 dL_law_976 dL_law_977 ?_
  refine t_callV (As := [.int (ag xs i 1), .int (ag xs i 2), .int (ag xs i 3)]) (rest := []) ES hW (c_X11_guard l G cI cJ cZ cD cR cT kp L f hW.2.2.2 _ x (ag xs i 1) (ag xs i 2) (ag xs i 3) rx) rx (by decide) rfl wk_X11_guard tw_1093 rfl ⟨Nat.le_of_ble_eq_true rfl, Nat.le_of_ble_eq_true rfl⟩ ⟨rfl, rfl⟩ hl.1 rfl (Nat.le_of_ble_eq_true rfl) dL_law_978 ⟨by omega, by omega⟩ (fun v f1 H locs q hW1 => ?_)
  obtain ⟨⟨r1, rfl, p1⟩, g1⟩ := q
  have hT1 := txi_fm hTH hT g1 rk0 rfl rfl rfl rfl
  have hZ1 := tie_fm hTH hZ g1 rx0 rk0 rfl rfl rfl rfl rfl rfl
  have hW := hW1
  refine lv_pop hx hb dL_law_981 rfl ?_
  refine lv_aload_n hx hb dL_law_982 rfl (lv_at hl 1 rfl) ?_
  refine law_arg (k := 1) hx hb hl hXS (by rw [hq]; exact hbl) hbA hW.2.2.1 hi rfl (by decide) dL_law_983 dL_law_984 dL_law_985 dL_law_986 dL_law_987 ?_
  refine law_arg (k := 2) hx hb hl hXS (by rw [hq]; exact hbl) hbA hW.2.2.1 hi rfl (by decide) dL_law_988 dL_law_989 dL_law_990 dL_law_991 dL_law_992 ?_
  refine law_arg (k := 3) hx hb hl hXS (by rw [hq]; exact hbl) hbA hW.2.2.1 hi rfl (by decide) dL_law_993 dL_law_994 dL_law_995 dL_law_996 dL_law_997 ?_
  refine t_callV (As := [.int (ag xs i 1), .int (ag xs i 2), .int (ag xs i 3)]) (rest := []) ES hW1 (c_X12_guard l G cI cJ cZ cD cR cT kp L f1 hW1.2.2.2 _ k (ag xs i 1) (ag xs i 2) (ag xs i 3) rk) rk (by decide) rfl wk_X12_guard tw_1958 rfl ⟨Nat.le_of_ble_eq_true rfl, Nat.le_of_ble_eq_true rfl⟩ ⟨rfl, rfl⟩ hl.1 rfl (Nat.le_of_ble_eq_true rfl) dL_law_998 ⟨by omega, by omega⟩ (fun v f2 H locs q hW2 => ?_)
  obtain ⟨⟨r2, rfl, p2⟩, g2, hR⟩ := q
  have hT2 := txi_rf hW1.2.2.2 hT1 g2 rk rfl rfl rfl hR (by decide) (by decide)
  have hZ2 := tie_row hW1.2.2.2 hZ1 g2 rx rk rfl rfl rfl rfl rfl (r8_rf rk g2 rfl hR (by decide +kernel) (by decide +kernel))
  refine lv_pop hx hb dL_law_1001 rfl ?_
  refine lv_goto (tgt := 1677) hx hb dL_law_1002 (by decide) ?_
  refine W.more (c2 := cells + 8) (s2 := slots + 2810) (by omega) (by omega) ?_
  exact hend kp L f2 S ls H locs ⟨hdr, hW2, rx, rk, hT2, hZ2⟩ hl
set_option maxHeartbeats 4000000 in
set_option maxRecDepth 100000 in
theorem law_case_23 (l : Launch) (G : va_G) (cI cJ cZ cD cR cT : ClassId) (σ : SE) (x k b Ls : Nat) (xs : Nat → Int32) (p : Program) (e : Env) (s : State) (m : MethodId) (below : List Frame) (meth : Method) (c : Code) (A : Nat → Prop) (Q : State → Prop) (i : Int32) (E : EV G cI cJ cZ cD cR cT A cL_law ret 4 RL p s m ([.ref b] : List Value).toArray meth c) (hSX : SX σ A s s.heap) (hCA : CA s) (hX : va_X b Ls xs s s.heap) (hbl : b < s.heap.size) (hbA : ¬ A b) (hi : 0 ≤ i.toInt ∧ i.toInt + 6 ≤ (Ls : Int) ∧ Ls ≤ 3072) (cells slots : Nat) (hc : cells + 8 ≤ room_1.cells) (hs : slots + 2810 ≤ room_1.slots) (kp : Nat → Nat) (L : List Nat) (f : Nat → va_E) (S : State) (ls : Array Slot) (H : Heap) (locs : List Loc) (hI : LWS G cI cJ cZ cD cR cT A kp L f x k s S H locs) (hl : lv_has ls 4 [(3, .int i), (2, .ref k), (1, .ref x), (0, .ref b)])
  (hend : ∀ (kp : Nat → Nat) (L : List Nat) (f : Nat → va_E) (S : State) (ls : Array Slot) (H : Heap) (locs : List Loc), LWS G cI cJ cZ cD cR cT A kp L f x k s S H locs → lv_has ls 4 [(3, .int i), (2, .ref k), (1, .ref x), (0, .ref b)] → W p l e room_1 S m ([.ref b] : List Value).toArray below meth c H locs (cells + 8) (slots + 2810) Q (F0 m 1677 ls [])) : W p l e room_1 S m ([.ref b] : List Value).toArray below meth c H locs cells slots Q (F0 m 1005 ls []) := by
  obtain ⟨hdr, hW, rx, rk, hT, hZ⟩ := hI
  have hq := hs_S hdr
  have ES := ev_S E hdr
  have hXS := xx_S hdr hX
  have hTH := hW.2.2.2
  obtain ⟨hx, hb, -, hml, hown, hts, -, -, -⟩ := id ES
  have rx0 := rx
  have rk0 := rk
  refine lv_aload_n hx hb dL_law_1005 rfl (lv_at hl 2 rfl) ?_
  refine law_arg (k := 1) hx hb hl hXS (by rw [hq]; exact hbl) hbA hW.2.2.1 hi rfl (by decide) dL_law_1006 dL_law_1007 dL_law_1008 dL_law_1009 dL_law_1010 ?_
  refine law_arg (k := 2) hx hb hl hXS (by rw [hq]; exact hbl) hbA hW.2.2.1 hi rfl (by decide) dL_law_1011 dL_law_1012 dL_law_1013 dL_law_1014 dL_law_1015 ?_
  refine law_arg (k := 3) hx hb hl hXS (by rw [hq]; exact hbl) hbA hW.2.2.1 hi rfl (by decide) dL_law_1016 dL_law_1017 dL_law_1018 dL_law_1019 dL_law_1020 ?_
  refine t_callV (As := [.int (ag xs i 1), .int (ag xs i 2), .int (ag xs i 3)]) (rest := []) ES hW (c_X11_take l G cI cJ cZ cD cR cT kp L f hW.2.2.2 _ x (ag xs i 1) (ag xs i 2) (ag xs i 3) rx) rx (by decide) rfl wk_X11_take tw_1101 rfl ⟨Nat.le_of_ble_eq_true rfl, Nat.le_of_ble_eq_true rfl⟩ ⟨rfl, rfl⟩ hl.1 rfl (Nat.le_of_ble_eq_true rfl) dL_law_1021 ⟨by omega, by omega⟩ (fun v f1 H locs q hW1 => ?_)
  obtain ⟨⟨r1, rfl, p1⟩, g1⟩ := q
  have hT1 := txi_fm hTH hT g1 rk0 rfl rfl rfl rfl
  have hZ1 := tie_fm hTH hZ g1 rx0 rk0 rfl rfl rfl rfl rfl rfl
  have hW := hW1
  refine lv_pop hx hb dL_law_1024 rfl ?_
  refine lv_aload_n hx hb dL_law_1025 rfl (lv_at hl 1 rfl) ?_
  refine law_arg (k := 1) hx hb hl hXS (by rw [hq]; exact hbl) hbA hW.2.2.1 hi rfl (by decide) dL_law_1026 dL_law_1027 dL_law_1028 dL_law_1029 dL_law_1030 ?_
  refine law_arg (k := 2) hx hb hl hXS (by rw [hq]; exact hbl) hbA hW.2.2.1 hi rfl (by decide) dL_law_1031 dL_law_1032 dL_law_1033 dL_law_1034 dL_law_1035 ?_
  refine law_arg (k := 3) hx hb hl hXS (by rw [hq]; exact hbl) hbA hW.2.2.1 hi rfl (by decide) dL_law_1036 dL_law_1037 dL_law_1038 dL_law_1039 dL_law_1040 ?_
  refine t_callV (As := [.int (ag xs i 1), .int (ag xs i 2), .int (ag xs i 3)]) (rest := []) ES hW1 (c_X12_take_u l G cI cJ cZ cD cR cT kp L f1 hW1.2.2.2 _ k (ag xs i 1) (ag xs i 2) (ag xs i 3) rk hT1.1) rk (by decide) rfl wk_X12_take tw_1962 rfl ⟨Nat.le_of_ble_eq_true rfl, Nat.le_of_ble_eq_true rfl⟩ ⟨rfl, rfl⟩ hl.1 rfl (Nat.le_of_ble_eq_true rfl) dL_law_1041 ⟨by omega, by omega⟩ (fun v f2 H locs q hW2 => ?_)
  obtain ⟨⟨r2, rfl, p2⟩, g2, hP, hR⟩ := q
  have hT2 := txi_rf hW1.2.2.2 hT1 g2 rk rfl rfl rfl hR (by decide) (by decide)
  have hZ2 := tie_row hW1.2.2.2 hZ1 g2 rx rk rfl rfl rfl rfl rfl (r8_pl rk g2 rfl hR (by decide +kernel) hP)
  refine lv_pop hx hb dL_law_1044 rfl ?_
  refine lv_goto (tgt := 1677) hx hb dL_law_1045 (by decide) ?_
  refine W.more (c2 := cells + 8) (s2 := slots + 2810) (by omega) (by omega) ?_
  exact hend kp L f2 S ls H locs ⟨hdr, hW2, rx, rk, hT2, hZ2⟩ hl
