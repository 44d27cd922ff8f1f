theorem dL_law_632 : decode cL_law 632 = .ok (.aload_n 1, 1) := by decide +kernel
theorem dL_law_633 : decode cL_law 633 = .ok (.aload_n 0, 1) := by decide +kernel
theorem dL_law_634 : decode cL_law 634 = .ok (.iload_n 3, 1) := by decide +kernel
theorem dL_law_635 : decode cL_law 635 = .ok (.iconst 1, 1) := by decide +kernel
theorem dL_law_636 : decode cL_law 636 = .ok (.iadd, 1) := by decide +kernel
theorem dL_law_637 : decode cL_law 637 = .ok (.iaload, 1) := by decide +kernel
theorem dL_law_638 : decode cL_law 638 = .ok (.aload_n 0, 1) := by decide +kernel
theorem dL_law_639 : decode cL_law 639 = .ok (.iload_n 3, 1) := by decide +kernel
theorem dL_law_640 : decode cL_law 640 = .ok (.iconst 2, 1) := by decide +kernel
theorem dL_law_641 : decode cL_law 641 = .ok (.iadd, 1) := by decide +kernel
theorem dL_law_642 : decode cL_law 642 = .ok (.iaload, 1) := by decide +kernel
theorem dL_law_643 : decode cL_law 643 = .ok (.invokevirtual 66, 3) := by decide +kernel
theorem dL_law_646 : decode cL_law 646 = .ok (.aload_n 2, 1) := by decide +kernel
theorem dL_law_647 : decode cL_law 647 = .ok (.aload_n 0, 1) := by decide +kernel
theorem dL_law_648 : decode cL_law 648 = .ok (.iload_n 3, 1) := by decide +kernel
theorem dL_law_649 : decode cL_law 649 = .ok (.iconst 1, 1) := by decide +kernel
theorem dL_law_650 : decode cL_law 650 = .ok (.iadd, 1) := by decide +kernel
theorem dL_law_651 : decode cL_law 651 = .ok (.iaload, 1) := by decide +kernel
theorem dL_law_652 : decode cL_law 652 = .ok (.aload_n 0, 1) := by decide +kernel
theorem dL_law_653 : decode cL_law 653 = .ok (.iload_n 3, 1) := by decide +kernel
theorem dL_law_654 : decode cL_law 654 = .ok (.iconst 2, 1) := by decide +kernel
theorem dL_law_655 : decode cL_law 655 = .ok (.iadd, 1) := by decide +kernel
theorem dL_law_656 : decode cL_law 656 = .ok (.iaload, 1) := by decide +kernel
theorem dL_law_657 : decode cL_law 657 = .ok (.invokevirtual 69, 3) := by decide +kernel
theorem dL_law_660 : decode cL_law 660 = .ok (.if_icmp .eq 1018, 3) := by decide +kernel
theorem dL_law_665 : decode cL_law 665 = .ok (.aload_n 1, 1) := by decide +kernel
theorem dL_law_666 : decode cL_law 666 = .ok (.aload_n 0, 1) := by decide +kernel
theorem dL_law_667 : decode cL_law 667 = .ok (.iload_n 3, 1) := by decide +kernel
theorem dL_law_668 : decode cL_law 668 = .ok (.iconst 1, 1) := by decide +kernel
theorem dL_law_669 : decode cL_law 669 = .ok (.iadd, 1) := by decide +kernel
theorem dL_law_670 : decode cL_law 670 = .ok (.iaload, 1) := by decide +kernel
theorem dL_law_671 : decode cL_law 671 = .ok (.aload_n 0, 1) := by decide +kernel
theorem dL_law_672 : decode cL_law 672 = .ok (.iload_n 3, 1) := by decide +kernel
theorem dL_law_673 : decode cL_law 673 = .ok (.iconst 2, 1) := by decide +kernel
theorem dL_law_674 : decode cL_law 674 = .ok (.iadd, 1) := by decide +kernel
theorem dL_law_675 : decode cL_law 675 = .ok (.iaload, 1) := by decide +kernel
theorem dL_law_676 : decode cL_law 676 = .ok (.invokevirtual 70, 3) := by decide +kernel
theorem dL_law_679 : decode cL_law 679 = .ok (.aload_n 2, 1) := by decide +kernel
theorem dL_law_680 : decode cL_law 680 = .ok (.aload_n 0, 1) := by decide +kernel
theorem dL_law_681 : decode cL_law 681 = .ok (.iload_n 3, 1) := by decide +kernel
theorem dL_law_682 : decode cL_law 682 = .ok (.iconst 1, 1) := by decide +kernel
theorem dL_law_683 : decode cL_law 683 = .ok (.iadd, 1) := by decide +kernel
theorem dL_law_684 : decode cL_law 684 = .ok (.iaload, 1) := by decide +kernel
theorem dL_law_685 : decode cL_law 685 = .ok (.aload_n 0, 1) := by decide +kernel
theorem dL_law_686 : decode cL_law 686 = .ok (.iload_n 3, 1) := by decide +kernel
theorem dL_law_687 : decode cL_law 687 = .ok (.iconst 2, 1) := by decide +kernel
theorem dL_law_688 : decode cL_law 688 = .ok (.iadd, 1) := by decide +kernel
theorem dL_law_689 : decode cL_law 689 = .ok (.iaload, 1) := by decide +kernel
theorem dL_law_690 : decode cL_law 690 = .ok (.invokevirtual 73, 3) := by decide +kernel
theorem dL_law_693 : decode cL_law 693 = .ok (.if_icmp .eq 985, 3) := by decide +kernel
theorem dL_law_698 : decode cL_law 698 = .ok (.aload_n 1, 1) := by decide +kernel
theorem dL_law_699 : decode cL_law 699 = .ok (.aload_n 0, 1) := by decide +kernel
theorem dL_law_700 : decode cL_law 700 = .ok (.iload_n 3, 1) := by decide +kernel
theorem dL_law_701 : decode cL_law 701 = .ok (.iconst 1, 1) := by decide +kernel
theorem dL_law_702 : decode cL_law 702 = .ok (.iadd, 1) := by decide +kernel
theorem dL_law_703 : decode cL_law 703 = .ok (.iaload, 1) := by decide +kernel
theorem dL_law_704 : decode cL_law 704 = .ok (.aload_n 0, 1) := by decide +kernel
theorem dL_law_705 : decode cL_law 705 = .ok (.iload_n 3, 1) := by decide +kernel
theorem dL_law_706 : decode cL_law 706 = .ok (.iconst 2, 1) := by decide +kernel
theorem dL_law_707 : decode cL_law 707 = .ok (.iadd, 1) := by decide +kernel
theorem dL_law_708 : decode cL_law 708 = .ok (.iaload, 1) := by decide +kernel
theorem dL_law_709 : decode cL_law 709 = .ok (.aload_n 0, 1) := by decide +kernel
theorem dL_law_710 : decode cL_law 710 = .ok (.iload_n 3, 1) := by decide +kernel
theorem dL_law_711 : decode cL_law 711 = .ok (.iconst 3, 1) := by decide +kernel
theorem dL_law_712 : decode cL_law 712 = .ok (.iadd, 1) := by decide +kernel
theorem dL_law_713 : decode cL_law 713 = .ok (.iaload, 1) := by decide +kernel
theorem dL_law_714 : decode cL_law 714 = .ok (.aload_n 0, 1) := by decide +kernel
theorem dL_law_715 : decode cL_law 715 = .ok (.iload_n 3, 1) := by decide +kernel
theorem dL_law_716 : decode cL_law 716 = .ok (.iconst 4, 1) := by decide +kernel
theorem dL_law_717 : decode cL_law 717 = .ok (.iadd, 1) := by decide +kernel
theorem dL_law_718 : decode cL_law 718 = .ok (.iaload, 1) := by decide +kernel
theorem dL_law_719 : decode cL_law 719 = .ok (.aload_n 0, 1) := by decide +kernel
theorem dL_law_720 : decode cL_law 720 = .ok (.iload_n 3, 1) := by decide +kernel
theorem dL_law_721 : decode cL_law 721 = .ok (.iconst 5, 1) := by decide +kernel
theorem dL_law_722 : decode cL_law 722 = .ok (.iadd, 1) := by decide +kernel
theorem dL_law_723 : decode cL_law 723 = .ok (.iaload, 1) := by decide +kernel
theorem dL_law_724 : decode cL_law 724 = .ok (.invokevirtual 74, 3) := by decide +kernel
theorem dL_law_727 : decode cL_law 727 = .ok (.aload_n 2, 1) := by decide +kernel
theorem dL_law_728 : decode cL_law 728 = .ok (.aload_n 0, 1) := by decide +kernel
theorem dL_law_729 : decode cL_law 729 = .ok (.iload_n 3, 1) := by decide +kernel
theorem dL_law_730 : decode cL_law 730 = .ok (.iconst 1, 1) := by decide +kernel
theorem dL_law_731 : decode cL_law 731 = .ok (.iadd, 1) := by decide +kernel
theorem dL_law_732 : decode cL_law 732 = .ok (.iaload, 1) := by decide +kernel
theorem dL_law_733 : decode cL_law 733 = .ok (.aload_n 0, 1) := by decide +kernel
theorem dL_law_734 : decode cL_law 734 = .ok (.iload_n 3, 1) := by decide +kernel
theorem dL_law_735 : decode cL_law 735 = .ok (.iconst 2, 1) := by decide +kernel
theorem dL_law_736 : decode cL_law 736 = .ok (.iadd, 1) := by decide +kernel
theorem dL_law_737 : decode cL_law 737 = .ok (.iaload, 1) := by decide +kernel
theorem dL_law_738 : decode cL_law 738 = .ok (.aload_n 0, 1) := by decide +kernel
theorem dL_law_739 : decode cL_law 739 = .ok (.iload_n 3, 1) := by decide +kernel
theorem dL_law_740 : decode cL_law 740 = .ok (.iconst 3, 1) := by decide +kernel
theorem dL_law_741 : decode cL_law 741 = .ok (.iadd, 1) := by decide +kernel
theorem dL_law_742 : decode cL_law 742 = .ok (.iaload, 1) := by decide +kernel
theorem dL_law_743 : decode cL_law 743 = .ok (.aload_n 0, 1) := by decide +kernel
theorem dL_law_744 : decode cL_law 744 = .ok (.iload_n 3, 1) := by decide +kernel
theorem dL_law_745 : decode cL_law 745 = .ok (.iconst 4, 1) := by decide +kernel
theorem dL_law_746 : decode cL_law 746 = .ok (.iadd, 1) := by decide +kernel
theorem dL_law_747 : decode cL_law 747 = .ok (.iaload, 1) := by decide +kernel
theorem dL_law_748 : decode cL_law 748 = .ok (.aload_n 0, 1) := by decide +kernel
theorem dL_law_749 : decode cL_law 749 = .ok (.iload_n 3, 1) := by decide +kernel
theorem dL_law_750 : decode cL_law 750 = .ok (.iconst 5, 1) := by decide +kernel
theorem dL_law_751 : decode cL_law 751 = .ok (.iadd, 1) := by decide +kernel
theorem dL_law_752 : decode cL_law 752 = .ok (.iaload, 1) := by decide +kernel
theorem dL_law_753 : decode cL_law 753 = .ok (.invokevirtual 78, 3) := by decide +kernel
theorem dL_law_756 : decode cL_law 756 = .ok (.if_icmp .eq 922, 3) := by decide +kernel
theorem dL_law_761 : decode cL_law 761 = .ok (.aload_n 1, 1) := by decide +kernel
theorem dL_law_762 : decode cL_law 762 = .ok (.aload_n 0, 1) := by decide +kernel
theorem dL_law_763 : decode cL_law 763 = .ok (.iload_n 3, 1) := by decide +kernel
theorem dL_law_764 : decode cL_law 764 = .ok (.iconst 1, 1) := by decide +kernel
theorem dL_law_765 : decode cL_law 765 = .ok (.iadd, 1) := by decide +kernel
theorem dL_law_766 : decode cL_law 766 = .ok (.iaload, 1) := by decide +kernel
theorem dL_law_767 : decode cL_law 767 = .ok (.invokevirtual 79, 3) := by decide +kernel
theorem dL_law_770 : decode cL_law 770 = .ok (.aload_n 2, 1) := by decide +kernel
theorem dL_law_771 : decode cL_law 771 = .ok (.aload_n 0, 1) := by decide +kernel
theorem dL_law_772 : decode cL_law 772 = .ok (.iload_n 3, 1) := by decide +kernel
theorem dL_law_773 : decode cL_law 773 = .ok (.iconst 1, 1) := by decide +kernel
theorem dL_law_774 : decode cL_law 774 = .ok (.iadd, 1) := by decide +kernel
theorem dL_law_775 : decode cL_law 775 = .ok (.iaload, 1) := by decide +kernel
theorem dL_law_776 : decode cL_law 776 = .ok (.invokevirtual 82, 3) := by decide +kernel
theorem dL_law_779 : decode cL_law 779 = .ok (.if_icmp .eq 899, 3) := by decide +kernel
theorem dL_law_784 : decode cL_law 784 = .ok (.aload_n 1, 1) := by decide +kernel
theorem dL_law_785 : decode cL_law 785 = .ok (.aload_n 0, 1) := by decide +kernel
theorem dL_law_786 : decode cL_law 786 = .ok (.iload_n 3, 1) := by decide +kernel
theorem dL_law_787 : decode cL_law 787 = .ok (.iconst 1, 1) := by decide +kernel
theorem dL_law_788 : decode cL_law 788 = .ok (.iadd, 1) := by decide +kernel
theorem dL_law_789 : decode cL_law 789 = .ok (.iaload, 1) := by decide +kernel
theorem dL_law_790 : decode cL_law 790 = .ok (.invokevirtual 83, 3) := by decide +kernel
theorem dL_law_793 : decode cL_law 793 = .ok (.aload_n 2, 1) := by decide +kernel
theorem dL_law_794 : decode cL_law 794 = .ok (.aload_n 0, 1) := by decide +kernel
theorem dL_law_795 : decode cL_law 795 = .ok (.iload_n 3, 1) := by decide +kernel
theorem dL_law_796 : decode cL_law 796 = .ok (.iconst 1, 1) := by decide +kernel
theorem dL_law_797 : decode cL_law 797 = .ok (.iadd, 1) := by decide +kernel
theorem dL_law_798 : decode cL_law 798 = .ok (.iaload, 1) := by decide +kernel
theorem dL_law_799 : decode cL_law 799 = .ok (.invokevirtual 86, 3) := by decide +kernel
theorem dL_law_802 : decode cL_law 802 = .ok (.if_icmp .eq 876, 3) := by decide +kernel
theorem dL_law_807 : decode cL_law 807 = .ok (.aload_n 1, 1) := by decide +kernel
theorem dL_law_808 : decode cL_law 808 = .ok (.invokevirtual 87, 3) := by decide +kernel
theorem dL_law_811 : decode cL_law 811 = .ok (.aload_n 2, 1) := by decide +kernel
theorem dL_law_812 : decode cL_law 812 = .ok (.invokevirtual 90, 3) := by decide +kernel
theorem dL_law_815 : decode cL_law 815 = .ok (.if_icmp .eq 863, 3) := by decide +kernel
theorem dL_law_820 : decode cL_law 820 = .ok (.aload_n 1, 1) := by decide +kernel
theorem dL_law_821 : decode cL_law 821 = .ok (.aload_n 0, 1) := by decide +kernel
theorem dL_law_822 : decode cL_law 822 = .ok (.iload_n 3, 1) := by decide +kernel
theorem dL_law_823 : decode cL_law 823 = .ok (.iconst 1, 1) := by decide +kernel
theorem dL_law_824 : decode cL_law 824 = .ok (.iadd, 1) := by decide +kernel
theorem dL_law_825 : decode cL_law 825 = .ok (.iaload, 1) := by decide +kernel
theorem dL_law_826 : decode cL_law 826 = .ok (.aload_n 0, 1) := by decide +kernel
theorem dL_law_827 : decode cL_law 827 = .ok (.iload_n 3, 1) := by decide +kernel
theorem dL_law_828 : decode cL_law 828 = .ok (.iconst 2, 1) := by decide +kernel
theorem dL_law_829 : decode cL_law 829 = .ok (.iadd, 1) := by decide +kernel
theorem dL_law_830 : decode cL_law 830 = .ok (.iaload, 1) := by decide +kernel
theorem dL_law_831 : decode cL_law 831 = .ok (.aload_n 0, 1) := by decide +kernel
theorem dL_law_832 : decode cL_law 832 = .ok (.iload_n 3, 1) := by decide +kernel
theorem dL_law_833 : decode cL_law 833 = .ok (.iconst 3, 1) := by decide +kernel
theorem dL_law_834 : decode cL_law 834 = .ok (.iadd, 1) := by decide +kernel
theorem dL_law_835 : decode cL_law 835 = .ok (.iaload, 1) := by decide +kernel
theorem dL_law_836 : decode cL_law 836 = .ok (.invokevirtual 91, 3) := by decide +kernel
theorem dL_law_839 : decode cL_law 839 = .ok (.aload_n 2, 1) := by decide +kernel
theorem dL_law_840 : decode cL_law 840 = .ok (.aload_n 0, 1) := by decide +kernel
theorem dL_law_841 : decode cL_law 841 = .ok (.iload_n 3, 1) := by decide +kernel
theorem dL_law_842 : decode cL_law 842 = .ok (.iconst 1, 1) := by decide +kernel
theorem dL_law_843 : decode cL_law 843 = .ok (.iadd, 1) := by decide +kernel
theorem dL_law_844 : decode cL_law 844 = .ok (.iaload, 1) := by decide +kernel
theorem dL_law_845 : decode cL_law 845 = .ok (.aload_n 0, 1) := by decide +kernel
theorem dL_law_846 : decode cL_law 846 = .ok (.iload_n 3, 1) := by decide +kernel
theorem dL_law_847 : decode cL_law 847 = .ok (.iconst 2, 1) := by decide +kernel
theorem dL_law_848 : decode cL_law 848 = .ok (.iadd, 1) := by decide +kernel
theorem dL_law_849 : decode cL_law 849 = .ok (.iaload, 1) := by decide +kernel
theorem dL_law_850 : decode cL_law 850 = .ok (.aload_n 0, 1) := by decide +kernel
theorem dL_law_851 : decode cL_law 851 = .ok (.iload_n 3, 1) := by decide +kernel
theorem dL_law_852 : decode cL_law 852 = .ok (.iconst 3, 1) := by decide +kernel
theorem dL_law_853 : decode cL_law 853 = .ok (.iadd, 1) := by decide +kernel
theorem dL_law_854 : decode cL_law 854 = .ok (.iaload, 1) := by decide +kernel
theorem dL_law_855 : decode cL_law 855 = .ok (.invokevirtual 94, 3) := by decide +kernel
theorem dL_law_858 : decode cL_law 858 = .ok (.if_icmp .eq 820, 3) := by decide +kernel
theorem dL_law_863 : decode cL_law 863 = .ok (.aload_n 1, 1) := by decide +kernel
theorem dL_law_864 : decode cL_law 864 = .ok (.aload_n 0, 1) := by decide +kernel
theorem dL_law_865 : decode cL_law 865 = .ok (.iload_n 3, 1) := by decide +kernel
theorem dL_law_866 : decode cL_law 866 = .ok (.iconst 1, 1) := by decide +kernel
theorem dL_law_867 : decode cL_law 867 = .ok (.iadd, 1) := by decide +kernel
theorem dL_law_868 : decode cL_law 868 = .ok (.iaload, 1) := by decide +kernel
theorem dL_law_869 : decode cL_law 869 = .ok (.aload_n 0, 1) := by decide +kernel
theorem dL_law_870 : decode cL_law 870 = .ok (.iload_n 3, 1) := by decide +kernel
theorem dL_law_871 : decode cL_law 871 = .ok (.iconst 2, 1) := by decide +kernel
theorem dL_law_872 : decode cL_law 872 = .ok (.iadd, 1) := by decide +kernel
theorem dL_law_873 : decode cL_law 873 = .ok (.iaload, 1) := by decide +kernel
theorem dL_law_874 : decode cL_law 874 = .ok (.aload_n 0, 1) := by decide +kernel
theorem dL_law_875 : decode cL_law 875 = .ok (.iload_n 3, 1) := by decide +kernel
theorem dL_law_876 : decode cL_law 876 = .ok (.iconst 3, 1) := by decide +kernel
theorem dL_law_877 : decode cL_law 877 = .ok (.iadd, 1) := by decide +kernel
theorem dL_law_878 : decode cL_law 878 = .ok (.iaload, 1) := by decide +kernel
theorem dL_law_879 : decode cL_law 879 = .ok (.aload_n 0, 1) := by decide +kernel
theorem dL_law_880 : decode cL_law 880 = .ok (.iload_n 3, 1) := by decide +kernel
theorem dL_law_881 : decode cL_law 881 = .ok (.iconst 4, 1) := by decide +kernel
theorem dL_law_882 : decode cL_law 882 = .ok (.iadd, 1) := by decide +kernel
theorem dL_law_883 : decode cL_law 883 = .ok (.iaload, 1) := by decide +kernel
theorem dL_law_884 : decode cL_law 884 = .ok (.invokevirtual 95, 3) := by decide +kernel
theorem dL_law_887 : decode cL_law 887 = .ok (.aload_n 2, 1) := by decide +kernel
theorem dL_law_888 : decode cL_law 888 = .ok (.aload_n 0, 1) := by decide +kernel
theorem dL_law_889 : decode cL_law 889 = .ok (.iload_n 3, 1) := by decide +kernel
theorem dL_law_890 : decode cL_law 890 = .ok (.iconst 1, 1) := by decide +kernel
theorem dL_law_891 : decode cL_law 891 = .ok (.iadd, 1) := by decide +kernel
theorem dL_law_892 : decode cL_law 892 = .ok (.iaload, 1) := by decide +kernel
theorem dL_law_893 : decode cL_law 893 = .ok (.aload_n 0, 1) := by decide +kernel
theorem dL_law_894 : decode cL_law 894 = .ok (.iload_n 3, 1) := by decide +kernel
theorem dL_law_895 : decode cL_law 895 = .ok (.iconst 2, 1) := by decide +kernel
theorem dL_law_896 : decode cL_law 896 = .ok (.iadd, 1) := by decide +kernel
theorem dL_law_897 : decode cL_law 897 = .ok (.iaload, 1) := by decide +kernel
theorem dL_law_898 : decode cL_law 898 = .ok (.aload_n 0, 1) := by decide +kernel
theorem dL_law_899 : decode cL_law 899 = .ok (.iload_n 3, 1) := by decide +kernel
theorem dL_law_900 : decode cL_law 900 = .ok (.iconst 3, 1) := by decide +kernel
theorem dL_law_901 : decode cL_law 901 = .ok (.iadd, 1) := by decide +kernel
theorem dL_law_902 : decode cL_law 902 = .ok (.iaload, 1) := by decide +kernel
theorem dL_law_903 : decode cL_law 903 = .ok (.aload_n 0, 1) := by decide +kernel
theorem dL_law_904 : decode cL_law 904 = .ok (.iload_n 3, 1) := by decide +kernel
theorem dL_law_905 : decode cL_law 905 = .ok (.iconst 4, 1) := by decide +kernel
theorem dL_law_906 : decode cL_law 906 = .ok (.iadd, 1) := by decide +kernel
theorem dL_law_907 : decode cL_law 907 = .ok (.iaload, 1) := by decide +kernel
theorem dL_law_908 : decode cL_law 908 = .ok (.invokevirtual 98, 3) := by decide +kernel
theorem dL_law_911 : decode cL_law 911 = .ok (.if_icmp .eq 767, 3) := by decide +kernel
theorem dL_law_916 : decode cL_law 916 = .ok (.aload_n 1, 1) := by decide +kernel
theorem dL_law_917 : decode cL_law 917 = .ok (.aload_n 0, 1) := by decide +kernel
theorem dL_law_918 : decode cL_law 918 = .ok (.iload_n 3, 1) := by decide +kernel
theorem dL_law_919 : decode cL_law 919 = .ok (.iconst 1, 1) := by decide +kernel
theorem dL_law_920 : decode cL_law 920 = .ok (.iadd, 1) := by decide +kernel
theorem dL_law_921 : decode cL_law 921 = .ok (.iaload, 1) := by decide +kernel
theorem dL_law_922 : decode cL_law 922 = .ok (.invokevirtual 99, 3) := by decide +kernel
theorem dL_law_925 : decode cL_law 925 = .ok (.aload_n 2, 1) := by decide +kernel
theorem dL_law_926 : decode cL_law 926 = .ok (.aload_n 0, 1) := by decide +kernel
theorem dL_law_927 : decode cL_law 927 = .ok (.iload_n 3, 1) := by decide +kernel
theorem dL_law_928 : decode cL_law 928 = .ok (.iconst 1, 1) := by decide +kernel
theorem dL_law_929 : decode cL_law 929 = .ok (.iadd, 1) := by decide +kernel
theorem dL_law_930 : decode cL_law 930 = .ok (.iaload, 1) := by decide +kernel
theorem dL_law_931 : decode cL_law 931 = .ok (.invokevirtual 102, 3) := by decide +kernel
theorem dL_law_934 : decode cL_law 934 = .ok (.if_icmp .eq 744, 3) := by decide +kernel
theorem dL_law_939 : decode cL_law 939 = .ok (.aload_n 1, 1) := by decide +kernel
theorem dL_law_940 : decode cL_law 940 = .ok (.aload_n 0, 1) := by decide +kernel
theorem dL_law_941 : decode cL_law 941 = .ok (.iload_n 3, 1) := by decide +kernel
theorem dL_law_942 : decode cL_law 942 = .ok (.iconst 1, 1) := by decide +kernel
theorem dL_law_943 : decode cL_law 943 = .ok (.iadd, 1) := by decide +kernel
theorem dL_law_944 : decode cL_law 944 = .ok (.iaload, 1) := by decide +kernel
theorem dL_law_945 : decode cL_law 945 = .ok (.invokevirtual 103, 3) := by decide +kernel
theorem dL_law_948 : decode cL_law 948 = .ok (.aload_n 2, 1) := by decide +kernel
theorem dL_law_949 : decode cL_law 949 = .ok (.aload_n 0, 1) := by decide +kernel
theorem dL_law_950 : decode cL_law 950 = .ok (.iload_n 3, 1) := by decide +kernel
theorem dL_law_951 : decode cL_law 951 = .ok (.iconst 1, 1) := by decide +kernel
theorem dL_law_952 : decode cL_law 952 = .ok (.iadd, 1) := by decide +kernel
theorem dL_law_953 : decode cL_law 953 = .ok (.iaload, 1) := by decide +kernel
theorem dL_law_954 : decode cL_law 954 = .ok (.invokevirtual 106, 3) := by decide +kernel
theorem dL_law_957 : decode cL_law 957 = .ok (.if_icmp .eq 721, 3) := by decide +kernel
theorem dL_law_962 : decode cL_law 962 = .ok (.aload_n 1, 1) := by decide +kernel
theorem dL_law_963 : decode cL_law 963 = .ok (.aload_n 0, 1) := by decide +kernel
theorem dL_law_964 : decode cL_law 964 = .ok (.iload_n 3, 1) := by decide +kernel
theorem dL_law_965 : decode cL_law 965 = .ok (.iconst 1, 1) := by decide +kernel
theorem dL_law_966 : decode cL_law 966 = .ok (.iadd, 1) := by decide +kernel
theorem dL_law_967 : decode cL_law 967 = .ok (.iaload, 1) := by decide +kernel
theorem dL_law_968 : decode cL_law 968 = .ok (.aload_n 0, 1) := by decide +kernel
theorem dL_law_969 : decode cL_law 969 = .ok (.iload_n 3, 1) := by decide +kernel
theorem dL_law_970 : decode cL_law 970 = .ok (.iconst 2, 1) := by decide +kernel
theorem dL_law_971 : decode cL_law 971 = .ok (.iadd, 1) := by decide +kernel
theorem dL_law_972 : decode cL_law 972 = .ok (.iaload, 1) := by decide +kernel
theorem dL_law_973 : decode cL_law 973 = .ok (.aload_n 0, 1) := by decide +kernel
theorem dL_law_974 : decode cL_law 974 = .ok (.iload_n 3, 1) := by decide +kernel
theorem dL_law_975 : decode cL_law 975 = .ok (.iconst 3, 1) := by decide +kernel
theorem dL_law_976 : decode cL_law 976 = .ok (.iadd, 1) := by decide +kernel
theorem dL_law_977 : decode cL_law 977 = .ok (.iaload, 1) := by decide +kernel
theorem dL_law_978 : decode cL_law 978 = .ok (.invokevirtual 107, 3) := by decide +kernel
theorem dL_law_981 : decode cL_law 981 = .ok (.aload_n 2, 1) := by decide +kernel
theorem dL_law_982 : decode cL_law 982 = .ok (.aload_n 0, 1) := by decide +kernel
theorem dL_law_983 : decode cL_law 983 = .ok (.iload_n 3, 1) := by decide +kernel
theorem dL_law_984 : decode cL_law 984 = .ok (.iconst 1, 1) := by decide +kernel
theorem dL_law_985 : decode cL_law 985 = .ok (.iadd, 1) := by decide +kernel
theorem dL_law_986 : decode cL_law 986 = .ok (.iaload, 1) := by decide +kernel
theorem dL_law_987 : decode cL_law 987 = .ok (.aload_n 0, 1) := by decide +kernel
theorem dL_law_988 : decode cL_law 988 = .ok (.iload_n 3, 1) := by decide +kernel
theorem dL_law_989 : decode cL_law 989 = .ok (.iconst 2, 1) := by decide +kernel
theorem dL_law_990 : decode cL_law 990 = .ok (.iadd, 1) := by decide +kernel
theorem dL_law_991 : decode cL_law 991 = .ok (.iaload, 1) := by decide +kernel
theorem dL_law_992 : decode cL_law 992 = .ok (.aload_n 0, 1) := by decide +kernel
theorem dL_law_993 : decode cL_law 993 = .ok (.iload_n 3, 1) := by decide +kernel
theorem dL_law_994 : decode cL_law 994 = .ok (.iconst 3, 1) := by decide +kernel
theorem dL_law_995 : decode cL_law 995 = .ok (.iadd, 1) := by decide +kernel
theorem dL_law_996 : decode cL_law 996 = .ok (.iaload, 1) := by decide +kernel
theorem dL_law_997 : decode cL_law 997 = .ok (.invokevirtual 110, 3) := by decide +kernel
theorem dL_law_1000 : decode cL_law 1000 = .ok (.if_icmp .eq 678, 3) := by decide +kernel
theorem dL_law_1005 : decode cL_law 1005 = .ok (.aload_n 1, 1) := by decide +kernel
theorem dL_law_1006 : decode cL_law 1006 = .ok (.aload_n 0, 1) := by decide +kernel
theorem dL_law_1007 : decode cL_law 1007 = .ok (.iload_n 3, 1) := by decide +kernel
theorem dL_law_1008 : decode cL_law 1008 = .ok (.iconst 1, 1) := by decide +kernel
theorem dL_law_1009 : decode cL_law 1009 = .ok (.iadd, 1) := by decide +kernel
theorem dL_law_1010 : decode cL_law 1010 = .ok (.iaload, 1) := by decide +kernel
theorem dL_law_1011 : decode cL_law 1011 = .ok (.aload_n 0, 1) := by decide +kernel
theorem dL_law_1012 : decode cL_law 1012 = .ok (.iload_n 3, 1) := by decide +kernel
theorem dL_law_1013 : decode cL_law 1013 = .ok (.iconst 2, 1) := by decide +kernel
theorem dL_law_1014 : decode cL_law 1014 = .ok (.iadd, 1) := by decide +kernel
theorem dL_law_1015 : decode cL_law 1015 = .ok (.iaload, 1) := by decide +kernel
theorem dL_law_1016 : decode cL_law 1016 = .ok (.aload_n 0, 1) := by decide +kernel
theorem dL_law_1017 : decode cL_law 1017 = .ok (.iload_n 3, 1) := by decide +kernel
theorem dL_law_1018 : decode cL_law 1018 = .ok (.iconst 3, 1) := by decide +kernel
theorem dL_law_1019 : decode cL_law 1019 = .ok (.iadd, 1) := by decide +kernel
theorem dL_law_1020 : decode cL_law 1020 = .ok (.iaload, 1) := by decide +kernel
theorem dL_law_1021 : decode cL_law 1021 = .ok (.invokevirtual 111, 3) := by decide +kernel
theorem dL_law_1024 : decode cL_law 1024 = .ok (.aload_n 2, 1) := by decide +kernel
theorem dL_law_1025 : decode cL_law 1025 = .ok (.aload_n 0, 1) := by decide +kernel
theorem dL_law_1026 : decode cL_law 1026 = .ok (.iload_n 3, 1) := by decide +kernel
theorem dL_law_1027 : decode cL_law 1027 = .ok (.iconst 1, 1) := by decide +kernel
theorem dL_law_1028 : decode cL_law 1028 = .ok (.iadd, 1) := by decide +kernel
theorem dL_law_1029 : decode cL_law 1029 = .ok (.iaload, 1) := by decide +kernel
theorem dL_law_1030 : decode cL_law 1030 = .ok (.aload_n 0, 1) := by decide +kernel
theorem dL_law_1031 : decode cL_law 1031 = .ok (.iload_n 3, 1) := by decide +kernel
theorem dL_law_1032 : decode cL_law 1032 = .ok (.iconst 2, 1) := by decide +kernel
theorem dL_law_1033 : decode cL_law 1033 = .ok (.iadd, 1) := by decide +kernel
theorem dL_law_1034 : decode cL_law 1034 = .ok (.iaload, 1) := by decide +kernel
theorem dL_law_1035 : decode cL_law 1035 = .ok (.aload_n 0, 1) := by decide +kernel
theorem dL_law_1036 : decode cL_law 1036 = .ok (.iload_n 3, 1) := by decide +kernel
theorem dL_law_1037 : decode cL_law 1037 = .ok (.iconst 3, 1) := by decide +kernel
theorem dL_law_1038 : decode cL_law 1038 = .ok (.iadd, 1) := by decide +kernel
theorem dL_law_1039 : decode cL_law 1039 = .ok (.iaload, 1) := by decide +kernel
theorem dL_law_1040 : decode cL_law 1040 = .ok (.invokevirtual 114, 3) := by decide +kernel
theorem dL_law_1043 : decode cL_law 1043 = .ok (.if_icmp .eq 635, 3) := by decide +kernel
set_option maxRecDepth 20000 in
theorem gv_law12_66_X11_row : GoodIn lw_tbl (wsV RL 66 RX11 yX11_row v_X11_row) := goodIn_app (goodIn_r _ [783, 784, 785, 103] (by decide +kernel) (by decide +kernel)) (gi tb_X11_row gd_X11_row)
set_option maxRecDepth 20000 in
theorem gv_law12_69_X12_row : GoodIn lw_tbl (wsV RL 69 RX12 yX12_row v_X12_row) := goodIn_app (goodIn_r _ [1724, 1725, 1726, 114] (by decide +kernel) (by decide +kernel)) (gi tb_X12_row gd_X12_row)
set_option maxHeartbeats 4000000 in
set_option maxRecDepth 100000 in
theorem law_case_12 {p : Program} {e : Env} {s : State} {m : MethodId} {below : List Frame} {meth : Method} {c : Code} (l : Launch) (G : va_G) (cI cJ cZ cD cR cT : ClassId) {b : Nat} {xs : Nat → Int32} (h0 k0 h0_0 h0_1 h0_2 h0_3 h0_6 h0_7 h0_8 h0_10 h0_11 h0_13 h0_0_0 h0_0_1 h0_0_2 h0_0_3 h0_0_4 h0_0_5 h0_0_8 h0_0_15 h0_0_16 h0_0_1_1 h0_0_1_2 h0_0_1_3 h0_0_1_4 h0_0_1_5 h0_0_1_6 h0_0_1_7 h0_0_1_9 h0_0_1_10 h0_0_1_11 h0_6_1 h0_6_2 k0_2 k0_3 k0_4 k0_5 k0_9 k0_10 k0_11 k0_20 k0_22 k0_23 k0_25 k0_26 k0_29 k0_30 k0_31 k0_32 k0_39 k0_40 k0_42 k0_44 k0_45 : Nat) {H : Heap} {locs : List Loc} {ls : Array Slot} (hx : p.tables.exec = Jvm.exec) (hb : c.code = code) (hr : meth.sig.returnType = ret) (hml : c.maxLocals = 4) (hown : s.vm.findClass RL = some m.cls) (hts : ∀ w ∈ lw_tbl, w.before #[Value.ref b] s = true) (hX : va_X b 6 xs s s.heap) (hbl : b < s.heap.size) (hlocks : meth.locks = false) (hKK : KK G (tys6 cI cJ cZ cD cR cT) s) (hP : va_P G vwCl [(h0, .inr (11, [.ref h0_0, .ref h0_1, .ref h0_2, .ref h0_3, .int 0, .int 0, .ref h0_6, .ref h0_7, .ref h0_8, .int 0, .ref h0_10, .ref h0_11, .int 0, .ref h0_13, .int 0, .int 0])), (h0_0, .inr (0, [.ref h0_0_0, .ref h0_0_1, .ref h0_0_2, .ref h0_0_3, .ref h0_0_4, .ref h0_0_5, .int 0, .int 0, .ref h0_0_8, .int 0, .int 0, .int 0, .int 0, .long 0, .int 0, .ref h0_0_15, .ref h0_0_16])), (h0_0_1, .inr (1, [.int 0, .ref h0_0_1_1, .ref h0_0_1_2, .ref h0_0_1_3, .ref h0_0_1_4, .ref h0_0_1_5, .ref h0_0_1_6, .ref h0_0_1_7, .int 0, .ref h0_0_1_9, .ref h0_0_1_10, .ref h0_0_1_11, .int (-1), .long 0, .long 0])), (h0_6, .inr (8, [.int 0, .ref h0_6_1, .ref h0_6_2, .int 0])), (k0, .inr (12, [.int 0, .int 0, .ref k0_2, .ref k0_3, .ref k0_4, .ref k0_5, .int 0, .int 0, .int 0, .ref k0_9, .ref k0_10, .ref k0_11, .int 0, .int 0, .int 0, .int 0, .long 0, .int (-1), .int 0, .int 0, .ref k0_20, .int 0, .ref k0_22, .ref k0_23, .int 0, .ref k0_25, .ref k0_26, .int 0, .int 0, .ref k0_29, .ref k0_30, .ref k0_31, .ref k0_32, .int 0, .long 0, .long 0, .long 0, .long 0, .int 0, .ref k0_39, .ref k0_40, .int 0, .ref k0_42, .int 0, .ref k0_44, .ref k0_45, .int 0, .int 0, .int 0, .int 0, .int 0, .int 0])), (k0_2, .inl (cI, 35942, .inl mrow))] H) (hD : va_D (fun q : Nat => s.heap.size ≤ q) [(h0, .inr (11, [.ref h0_0, .ref h0_1, .ref h0_2, .ref h0_3, .int 0, .int 0, .ref h0_6, .ref h0_7, .ref h0_8, .int 0, .ref h0_10, .ref h0_11, .int 0, .ref h0_13, .int 0, .int 0])), (h0_0, .inr (0, [.ref h0_0_0, .ref h0_0_1, .ref h0_0_2, .ref h0_0_3, .ref h0_0_4, .ref h0_0_5, .int 0, .int 0, .ref h0_0_8, .int 0, .int 0, .int 0, .int 0, .long 0, .int 0, .ref h0_0_15, .ref h0_0_16])), (h0_0_1, .inr (1, [.int 0, .ref h0_0_1_1, .ref h0_0_1_2, .ref h0_0_1_3, .ref h0_0_1_4, .ref h0_0_1_5, .ref h0_0_1_6, .ref h0_0_1_7, .int 0, .ref h0_0_1_9, .ref h0_0_1_10, .ref h0_0_1_11, .int (-1), .long 0, .long 0])), (h0_6, .inr (8, [.int 0, .ref h0_6_1, .ref h0_6_2, .int 0])), (k0, .inr (12, [.int 0, .int 0, .ref k0_2, .ref k0_3, .ref k0_4, .ref k0_5, .int 0, .int 0, .int 0, .ref k0_9, .ref k0_10, .ref k0_11, .int 0, .int 0, .int 0, .int 0, .long 0, .int (-1), .int 0, .int 0, .ref k0_20, .int 0, .ref k0_22, .ref k0_23, .int 0, .ref k0_25, .ref k0_26, .int 0, .int 0, .ref k0_29, .ref k0_30, .ref k0_31, .ref k0_32, .int 0, .long 0, .long 0, .long 0, .long 0, .int 0, .ref k0_39, .ref k0_40, .int 0, .ref k0_42, .int 0, .ref k0_44, .ref k0_45, .int 0, .int 0, .int 0, .int 0, .int 0, .int 0])), (k0_2, .inl (cI, 35942, .inl mrow))]) (hS : va_S (fun q : Nat => s.heap.size ≤ q) s.heap H locs) (hl : lv_has ls 4 [(3, .int 0), (2, .ref k0), (1, .ref h0), (0, .ref b)]) : W p l e room_1 s m #[Value.ref b] below meth c H locs 221 158368 (lw_Z below #[Value.ref b] s) (F0 m 632 ls []) := by
  have hK := hKK.1
  have hA : ∀ q : Nat, s.heap.size ≤ q → (fun q : Nat => s.heap.size ≤ q) q := fun _ h => h
  have hbA : ¬ (fun q : Nat => s.heap.size ≤ q) b := Nat.not_le.mpr hbl
  refine lv_aload_n hx hb dL_law_632 rfl (lv_at hl 2 rfl) ?_
  refine lv_aload_n hx hb dL_law_633 rfl (lv_at hl 3 rfl) ?_
  refine lv_iload_n hx hb dL_law_634 rfl (lv_at hl 0 rfl) ?_
  refine lv_iconst (v := 1) hx hb dL_law_635 (by decide) ?_
  refine lv_iadd hx hb dL_law_636 ?_
  refine lv_topi (fun x1 ex1 => ?_)
  obtain rfl : 1 = x1 := (ex1.trans (by decide)).symm
  refine va_sld hx hb hX hbl hbA hS (vp_in_iff.mpr (by decide)) dL_law_637 ?_
  refine lv_topi (fun x2 ex2 => ?_)
  obtain rfl : xs 1 = x2 := (ex2.trans rfl).symm
  refine lv_aload_n hx hb dL_law_638 rfl (lv_at hl 3 rfl) ?_
  refine lv_iload_n hx hb dL_law_639 rfl (lv_at hl 0 rfl) ?_
  refine lv_iconst (v := 2) hx hb dL_law_640 (by decide) ?_
  refine lv_iadd hx hb dL_law_641 ?_
  refine lv_topi (fun x3 ex3 => ?_)
  obtain rfl : 2 = x3 := (ex3.trans (by decide)).symm
  refine va_sld hx hb hX hbl hbA hS (vp_in_iff.mpr (by decide)) dL_law_642 ?_
  refine lv_topi (fun x4 ex4 => ?_)
  obtain rfl : xs 2 = x4 := (ex4.trans rfl).symm
  refine goV (As := [.int (xs 1), .int (xs 2)]) (rest := []) (wr := [(k0, .inr (12, [.int 0, .int 0, .ref k0_2, .ref k0_3, .ref k0_4, .ref k0_5, .int 0, .int 0, .int 0, .ref k0_9, .ref k0_10, .ref k0_11, .int 0, .int 0, .int 0, .int 0, .long 0, .int (-1), .int 0, .int 0, .ref k0_20, .int 0, .ref k0_22, .ref k0_23, .int 0, .ref k0_25, .ref k0_26, .int 0, .int 0, .ref k0_29, .ref k0_30, .ref k0_31, .ref k0_32, .int 0, .long 0, .long 0, .long 0, .long 0, .int 0, .ref k0_39, .ref k0_40, .int 0, .ref k0_42, .int 0, .ref k0_44, .ref k0_45, .int 0, .int 0, .int 0, .int 0, .int 0, .int 0])), (k0_2, .inl (cI, 35942, .inl mrow))]) ⟨hx, hb, hml, hown, hts⟩ (c_X11_row l G cI cJ cZ cD cR cT h0 (xs 1) (xs 2) h0_0 h0_1 h0_2 h0_3 h0_6 h0_7 h0_8 h0_10 h0_11 h0_13 h0_0_0 h0_0_1 h0_0_2 h0_0_3 h0_0_4 h0_0_5 h0_0_8 h0_0_15 h0_0_16 h0_0_1_1 h0_0_1_2 h0_0_1_3 h0_0_1_4 h0_0_1_5 h0_0_1_6 h0_0_1_7 h0_0_1_9 h0_0_1_10 h0_0_1_11 h0_6_1 h0_6_2 _) (cwV 2 hts gv_law12_66_X11_row rfl rfl rfl (by decide +kernel) ⟨Nat.le_of_ble_eq_true rfl, Nat.le_of_ble_eq_true rfl⟩) 0 rfl rfl rfl hKK hP hD hS hA [0, 1, 2, 3] [4, 5] rfl rfl (by decide +kernel) (by decide +kernel) (by decide +kernel) rfl hl.1 rfl (lv_room (Nat.le_of_ble_eq_true rfl)) dL_law_643 ⟨Nat.le_of_ble_eq_true rfl, Nat.le_of_ble_eq_true rfl⟩ (fun v6 q5 gq5 H locs hv6 => appW (ws' := [(k0, .inr (12, [.int 0, .int 0, .ref k0_2, .ref k0_3, .ref k0_4, .ref k0_5, .int 0, .int 0, .int 0, .ref k0_9, .ref k0_10, .ref k0_11, .int 0, .int 0, .int 0, .int 0, .long 0, .int (-1), .int 0, .int 0, .ref k0_20, .int 0, .ref k0_22, .ref k0_23, .int 0, .ref k0_25, .ref k0_26, .int 0, .int 0, .ref k0_29, .ref k0_30, .ref k0_31, .ref k0_32, .int 0, .long 0, .long 0, .long 0, .long 0, .int 0, .ref k0_39, .ref k0_40, .int 0, .ref k0_42, .int 0, .ref k0_44, .ref k0_45, .int 0, .int 0, .int 0, .int 0, .int 0, .int 0])), (k0_2, .inl (cI, 35942, .inl mrow))]) rfl (fun hP hD hS => ?_))
  obtain ⟨r7, rfl, hr7⟩ := hv6
  refine lv_aload_n hx hb dL_law_646 rfl (lv_at hl 1 rfl) ?_
  refine lv_aload_n hx hb dL_law_647 rfl (lv_at hl 3 rfl) ?_
  refine lv_iload_n hx hb dL_law_648 rfl (lv_at hl 0 rfl) ?_
  refine lv_iconst (v := 1) hx hb dL_law_649 (by decide) ?_
  refine lv_iadd hx hb dL_law_650 ?_
  refine lv_topi (fun x8 ex8 => ?_)
  obtain rfl : 1 = x8 := (ex8.trans (by decide)).symm
  refine va_sld hx hb hX hbl hbA hS (vp_in_iff.mpr (by decide)) dL_law_651 ?_
  refine lv_topi (fun x9 ex9 => ?_)
  obtain rfl : xs 1 = x9 := (ex9.trans rfl).symm
  refine lv_aload_n hx hb dL_law_652 rfl (lv_at hl 3 rfl) ?_
  refine lv_iload_n hx hb dL_law_653 rfl (lv_at hl 0 rfl) ?_
  refine lv_iconst (v := 2) hx hb dL_law_654 (by decide) ?_
  refine lv_iadd hx hb dL_law_655 ?_
  refine lv_topi (fun x10 ex10 => ?_)
  obtain rfl : 2 = x10 := (ex10.trans (by decide)).symm
  refine va_sld hx hb hX hbl hbA hS (vp_in_iff.mpr (by decide)) dL_law_656 ?_
  refine lv_topi (fun x11 ex11 => ?_)
  obtain rfl : xs 2 = x11 := (ex11.trans rfl).symm
  refine goV (As := [.int (xs 1), .int (xs 2)]) (rest := [.int r7]) (wr := []) ⟨hx, hb, hml, hown, hts⟩ (c_X12_row l G cI cJ cZ cD cR cT k0 (xs 1) (xs 2) k0_2 k0_3 k0_4 k0_5 k0_9 k0_10 k0_11 k0_20 k0_22 k0_23 k0_25 k0_26 k0_29 k0_30 k0_31 k0_32 k0_39 k0_40 k0_42 k0_44 k0_45 _) (cwV 2 hts gv_law12_69_X12_row rfl rfl rfl (by decide +kernel) ⟨Nat.le_of_ble_eq_true rfl, Nat.le_of_ble_eq_true rfl⟩) 0 rfl rfl rfl hKK hP hD hS hA [0, 1] [] rfl rfl (by decide +kernel) (by decide +kernel) (by decide +kernel) rfl hl.1 rfl (lv_room (Nat.le_of_ble_eq_true rfl)) dL_law_657 ⟨Nat.le_of_ble_eq_true rfl, Nat.le_of_ble_eq_true rfl⟩ (fun v13 q12 gq12 H locs hv13 => appW (ws' := []) rfl (fun hP hD hS => ?_))
  obtain ⟨r14, rfl, hr14⟩ := hv13
  refine lv_icmp_eq (tgt := 1678) hx hb dL_law_660 (by decide) (fun _ => ?_) (fun c => absurd (hr7.trans hr14.symm) c)
  refine lv_iinc (v := 6) (lv' := [(3, .int 6), (2, .ref k0), (1, .ref h0), (0, .ref b)]) hx hb dL_law_1678 hl (k := 0) rfl (by decide) (by decide) rfl (fun ls hl => ?_)
  refine lv_goto (tgt := 18) hx hb dL_law_1681 (by decide) ?_
  refine lv_iload_n hx hb dL_law_18 rfl (lv_at hl 0 rfl) ?_
  refine lv_aload_n hx hb dL_law_19 rfl (lv_at hl 3 rfl) ?_
  refine va_slen hx hb hX hbl hbA hS dL_law_20 ?_
  refine lv_topi (fun x15 ex15 => ?_)
  obtain rfl : 6 = x15 := (ex15.trans rfl).symm
  refine lv_bipush (v := 6) hx hb dL_law_21 (by decide) ?_
  refine lv_isub hx hb dL_law_23 ?_
  refine lv_topi (fun x16 ex16 => ?_)
  obtain rfl : 0 = x16 := (ex16.trans (by decide)).symm
  refine lv_icmp_gt (tgt := 1684) hx hb dL_law_24 (by decide) (fun _ => ?_) (fun c => absurd c (by decide))
  refine lv_iconst (v := 1) hx hb dL_law_1684 (by decide) ?_
  refine va_forget (fun q h => hS.2.2 q h) ?_
  refine W.widen (k := 600000) (n := 7302250) (Nat.le_of_ble_eq_true rfl) (Nat.le_of_ble_eq_true rfl) ?_
  exact W.base (lw_ret (Drawn.sameBut.refl s.drawn lw_cs) hx hb hr hlocks dL_law_1685)
set_option maxRecDepth 20000 in
theorem gv_law13_70_X11_crop : GoodIn lw_tbl (wsV RL 70 RX11 yX11_crop v_X11_crop) := goodIn_app (goodIn_r _ [839, 840, 841, 103] (by decide +kernel) (by decide +kernel)) (gi tb_X11_crop gd_X11_crop)
set_option maxRecDepth 20000 in
theorem gv_law13_73_X12_crop : GoodIn lw_tbl (wsV RL 73 RX12 yX12_crop v_X12_crop) := goodIn_app (goodIn_r _ [1741, 1742, 1743, 114] (by decide +kernel) (by decide +kernel)) (gi tb_X12_crop gd_X12_crop)
set_option maxHeartbeats 4000000 in
set_option maxRecDepth 100000 in
theorem law_case_13 {p : Program} {e : Env} {s : State} {m : MethodId} {below : List Frame} {meth : Method} {c : Code} (l : Launch) (G : va_G) (cI cJ cZ cD cR cT : ClassId) {b : Nat} {xs : Nat → Int32} (h0 k0 h0_0 h0_1 h0_2 h0_3 h0_6 h0_7 h0_8 h0_10 h0_11 h0_13 h0_0_0 h0_0_1 h0_0_2 h0_0_3 h0_0_4 h0_0_5 h0_0_8 h0_0_15 h0_0_16 h0_0_1_1 h0_0_1_2 h0_0_1_3 h0_0_1_4 h0_0_1_5 h0_0_1_6 h0_0_1_7 h0_0_1_9 h0_0_1_10 h0_0_1_11 k0_2 k0_3 k0_4 k0_5 k0_9 k0_10 k0_11 k0_20 k0_22 k0_23 k0_25 k0_26 k0_29 k0_30 k0_31 k0_32 k0_39 k0_40 k0_42 k0_44 k0_45 : Nat) {H : Heap} {locs : List Loc} {ls : Array Slot} (hx : p.tables.exec = Jvm.exec) (hb : c.code = code) (hr : meth.sig.returnType = ret) (hml : c.maxLocals = 4) (hown : s.vm.findClass RL = some m.cls) (hts : ∀ w ∈ lw_tbl, w.before #[Value.ref b] s = true) (hX : va_X b 6 xs s s.heap) (hbl : b < s.heap.size) (hlocks : meth.locks = false) (hKK : KK G (tys6 cI cJ cZ cD cR cT) s) (hP : va_P G vwCl [(h0, .inr (11, [.ref h0_0, .ref h0_1, .ref h0_2, .ref h0_3, .int 0, .int 0, .ref h0_6, .ref h0_7, .ref h0_8, .int 0, .ref h0_10, .ref h0_11, .int 0, .ref h0_13, .int 0, .int 0])), (h0_0, .inr (0, [.ref h0_0_0, .ref h0_0_1, .ref h0_0_2, .ref h0_0_3, .ref h0_0_4, .ref h0_0_5, .int 0, .int 0, .ref h0_0_8, .int 0, .int 0, .int 0, .int 0, .long 0, .int 0, .ref h0_0_15, .ref h0_0_16])), (h0_0_1, .inr (1, [.int 0, .ref h0_0_1_1, .ref h0_0_1_2, .ref h0_0_1_3, .ref h0_0_1_4, .ref h0_0_1_5, .ref h0_0_1_6, .ref h0_0_1_7, .int 0, .ref h0_0_1_9, .ref h0_0_1_10, .ref h0_0_1_11, .int (-1), .long 0, .long 0])), (k0, .inr (12, [.int 0, .int 0, .ref k0_2, .ref k0_3, .ref k0_4, .ref k0_5, .int 0, .int 0, .int 0, .ref k0_9, .ref k0_10, .ref k0_11, .int 0, .int 0, .int 0, .int 0, .long 0, .int (-1), .int 0, .int 0, .ref k0_20, .int 0, .ref k0_22, .ref k0_23, .int 0, .ref k0_25, .ref k0_26, .int 0, .int 0, .ref k0_29, .ref k0_30, .ref k0_31, .ref k0_32, .int 0, .long 0, .long 0, .long 0, .long 0, .int 0, .ref k0_39, .ref k0_40, .int 0, .ref k0_42, .int 0, .ref k0_44, .ref k0_45, .int 0, .int 0, .int 0, .int 0, .int 0, .int 0])), (k0_2, .inl (cI, 35942, .inl mrow))] H) (hD : va_D (fun q : Nat => s.heap.size ≤ q) [(h0, .inr (11, [.ref h0_0, .ref h0_1, .ref h0_2, .ref h0_3, .int 0, .int 0, .ref h0_6, .ref h0_7, .ref h0_8, .int 0, .ref h0_10, .ref h0_11, .int 0, .ref h0_13, .int 0, .int 0])), (h0_0, .inr (0, [.ref h0_0_0, .ref h0_0_1, .ref h0_0_2, .ref h0_0_3, .ref h0_0_4, .ref h0_0_5, .int 0, .int 0, .ref h0_0_8, .int 0, .int 0, .int 0, .int 0, .long 0, .int 0, .ref h0_0_15, .ref h0_0_16])), (h0_0_1, .inr (1, [.int 0, .ref h0_0_1_1, .ref h0_0_1_2, .ref h0_0_1_3, .ref h0_0_1_4, .ref h0_0_1_5, .ref h0_0_1_6, .ref h0_0_1_7, .int 0, .ref h0_0_1_9, .ref h0_0_1_10, .ref h0_0_1_11, .int (-1), .long 0, .long 0])), (k0, .inr (12, [.int 0, .int 0, .ref k0_2, .ref k0_3, .ref k0_4, .ref k0_5, .int 0, .int 0, .int 0, .ref k0_9, .ref k0_10, .ref k0_11, .int 0, .int 0, .int 0, .int 0, .long 0, .int (-1), .int 0, .int 0, .ref k0_20, .int 0, .ref k0_22, .ref k0_23, .int 0, .ref k0_25, .ref k0_26, .int 0, .int 0, .ref k0_29, .ref k0_30, .ref k0_31, .ref k0_32, .int 0, .long 0, .long 0, .long 0, .long 0, .int 0, .ref k0_39, .ref k0_40, .int 0, .ref k0_42, .int 0, .ref k0_44, .ref k0_45, .int 0, .int 0, .int 0, .int 0, .int 0, .int 0])), (k0_2, .inl (cI, 35942, .inl mrow))]) (hS : va_S (fun q : Nat => s.heap.size ≤ q) s.heap H locs) (hl : lv_has ls 4 [(3, .int 0), (2, .ref k0), (1, .ref h0), (0, .ref b)]) : W p l e room_1 s m #[Value.ref b] below meth c H locs 221 158368 (lw_Z below #[Value.ref b] s) (F0 m 665 ls []) := by
  have hK := hKK.1
  have hA : ∀ q : Nat, s.heap.size ≤ q → (fun q : Nat => s.heap.size ≤ q) q := fun _ h => h
  have hbA : ¬ (fun q : Nat => s.heap.size ≤ q) b := Nat.not_le.mpr hbl
  refine lv_aload_n hx hb dL_law_665 rfl (lv_at hl 2 rfl) ?_
  refine lv_aload_n hx hb dL_law_666 rfl (lv_at hl 3 rfl) ?_
  refine lv_iload_n hx hb dL_law_667 rfl (lv_at hl 0 rfl) ?_
  refine lv_iconst (v := 1) hx hb dL_law_668 (by decide) ?_
  refine lv_iadd hx hb dL_law_669 ?_
  refine lv_topi (fun x1 ex1 => ?_)
  obtain rfl : 1 = x1 := (ex1.trans (by decide)).symm
  refine va_sld hx hb hX hbl hbA hS (vp_in_iff.mpr (by decide)) dL_law_670 ?_
  refine lv_topi (fun x2 ex2 => ?_)
  obtain rfl : xs 1 = x2 := (ex2.trans rfl).symm
  refine lv_aload_n hx hb dL_law_671 rfl (lv_at hl 3 rfl) ?_
  refine lv_iload_n hx hb dL_law_672 rfl (lv_at hl 0 rfl) ?_
  refine lv_iconst (v := 2) hx hb dL_law_673 (by decide) ?_
  refine lv_iadd hx hb dL_law_674 ?_
  refine lv_topi (fun x3 ex3 => ?_)
  obtain rfl : 2 = x3 := (ex3.trans (by decide)).symm
  refine va_sld hx hb hX hbl hbA hS (vp_in_iff.mpr (by decide)) dL_law_675 ?_
  refine lv_topi (fun x4 ex4 => ?_)
  obtain rfl : xs 2 = x4 := (ex4.trans rfl).symm
  refine goV (As := [.int (xs 1), .int (xs 2)]) (rest := []) (wr := [(k0, .inr (12, [.int 0, .int 0, .ref k0_2, .ref k0_3, .ref k0_4, .ref k0_5, .int 0, .int 0, .int 0, .ref k0_9, .ref k0_10, .ref k0_11, .int 0, .int 0, .int 0, .int 0, .long 0, .int (-1), .int 0, .int 0, .ref k0_20, .int 0, .ref k0_22, .ref k0_23, .int 0, .ref k0_25, .ref k0_26, .int 0, .int 0, .ref k0_29, .ref k0_30, .ref k0_31, .ref k0_32, .int 0, .long 0, .long 0, .long 0, .long 0, .int 0, .ref k0_39, .ref k0_40, .int 0, .ref k0_42, .int 0, .ref k0_44, .ref k0_45, .int 0, .int 0, .int 0, .int 0, .int 0, .int 0])), (k0_2, .inl (cI, 35942, .inl mrow))]) ⟨hx, hb, hml, hown, hts⟩ (c_X11_crop l G cI cJ cZ cD cR cT h0 (xs 1) (xs 2) h0_0 h0_1 h0_2 h0_3 h0_6 h0_7 h0_8 h0_10 h0_11 h0_13 h0_0_0 h0_0_1 h0_0_2 h0_0_3 h0_0_4 h0_0_5 h0_0_8 h0_0_15 h0_0_16 h0_0_1_1 h0_0_1_2 h0_0_1_3 h0_0_1_4 h0_0_1_5 h0_0_1_6 h0_0_1_7 h0_0_1_9 h0_0_1_10 h0_0_1_11 _) (cwV 2 hts gv_law13_70_X11_crop rfl rfl rfl (by decide +kernel) ⟨Nat.le_of_ble_eq_true rfl, Nat.le_of_ble_eq_true rfl⟩) 0 rfl rfl rfl hKK hP hD hS hA [0, 1, 2] [3, 4] rfl rfl (by decide +kernel) (by decide +kernel) (by decide +kernel) rfl hl.1 rfl (lv_room (Nat.le_of_ble_eq_true rfl)) dL_law_676 ⟨Nat.le_of_ble_eq_true rfl, Nat.le_of_ble_eq_true rfl⟩ (fun v6 q5 gq5 H locs hv6 => appW (ws' := [(k0, .inr (12, [.int 0, .int 0, .ref k0_2, .ref k0_3, .ref k0_4, .ref k0_5, .int 0, .int 0, .int 0, .ref k0_9, .ref k0_10, .ref k0_11, .int 0, .int 0, .int 0, .int 0, .long 0, .int (-1), .int 0, .int 0, .ref k0_20, .int 0, .ref k0_22, .ref k0_23, .int 0, .ref k0_25, .ref k0_26, .int 0, .int 0, .ref k0_29, .ref k0_30, .ref k0_31, .ref k0_32, .int 0, .long 0, .long 0, .long 0, .long 0, .int 0, .ref k0_39, .ref k0_40, .int 0, .ref k0_42, .int 0, .ref k0_44, .ref k0_45, .int 0, .int 0, .int 0, .int 0, .int 0, .int 0])), (k0_2, .inl (cI, 35942, .inl mrow))]) rfl (fun hP hD hS => ?_))
  obtain ⟨r7, rfl, hr7⟩ := hv6
  refine lv_aload_n hx hb dL_law_679 rfl (lv_at hl 1 rfl) ?_
  refine lv_aload_n hx hb dL_law_680 rfl (lv_at hl 3 rfl) ?_
  refine lv_iload_n hx hb dL_law_681 rfl (lv_at hl 0 rfl) ?_
  refine lv_iconst (v := 1) hx hb dL_law_682 (by decide) ?_
  refine lv_iadd hx hb dL_law_683 ?_
  refine lv_topi (fun x8 ex8 => ?_)
  obtain rfl : 1 = x8 := (ex8.trans (by decide)).symm
  refine va_sld hx hb hX hbl hbA hS (vp_in_iff.mpr (by decide)) dL_law_684 ?_
  refine lv_topi (fun x9 ex9 => ?_)
  obtain rfl : xs 1 = x9 := (ex9.trans rfl).symm
  refine lv_aload_n hx hb dL_law_685 rfl (lv_at hl 3 rfl) ?_
  refine lv_iload_n hx hb dL_law_686 rfl (lv_at hl 0 rfl) ?_
  refine lv_iconst (v := 2) hx hb dL_law_687 (by decide) ?_
  refine lv_iadd hx hb dL_law_688 ?_
  refine lv_topi (fun x10 ex10 => ?_)
  obtain rfl : 2 = x10 := (ex10.trans (by decide)).symm
  refine va_sld hx hb hX hbl hbA hS (vp_in_iff.mpr (by decide)) dL_law_689 ?_
  refine lv_topi (fun x11 ex11 => ?_)
  obtain rfl : xs 2 = x11 := (ex11.trans rfl).symm
  refine goV (As := [.int (xs 1), .int (xs 2)]) (rest := [.int r7]) (wr := []) ⟨hx, hb, hml, hown, hts⟩ (c_X12_crop l G cI cJ cZ cD cR cT k0 (xs 1) (xs 2) k0_2 k0_3 k0_4 k0_5 k0_9 k0_10 k0_11 k0_20 k0_22 k0_23 k0_25 k0_26 k0_29 k0_30 k0_31 k0_32 k0_39 k0_40 k0_42 k0_44 k0_45 _) (cwV 2 hts gv_law13_73_X12_crop rfl rfl rfl (by decide +kernel) ⟨Nat.le_of_ble_eq_true rfl, Nat.le_of_ble_eq_true rfl⟩) 0 rfl rfl rfl hKK hP hD hS hA [0, 1] [] rfl rfl (by decide +kernel) (by decide +kernel) (by decide +kernel) rfl hl.1 rfl (lv_room (Nat.le_of_ble_eq_true rfl)) dL_law_690 ⟨Nat.le_of_ble_eq_true rfl, Nat.le_of_ble_eq_true rfl⟩ (fun v13 q12 gq12 H locs hv13 => appW (ws' := []) rfl (fun hP hD hS => ?_))
  obtain ⟨r14, rfl, hr14⟩ := hv13
  refine lv_icmp_eq (tgt := 1678) hx hb dL_law_693 (by decide) (fun _ => ?_) (fun c => absurd (hr7.trans hr14.symm) c)
  refine lv_iinc (v := 6) (lv' := [(3, .int 6), (2, .ref k0), (1, .ref h0), (0, .ref b)]) hx hb dL_law_1678 hl (k := 0) rfl (by decide) (by decide) rfl (fun ls hl => ?_)
  refine lv_goto (tgt := 18) hx hb dL_law_1681 (by decide) ?_
  refine lv_iload_n hx hb dL_law_18 rfl (lv_at hl 0 rfl) ?_
  refine lv_aload_n hx hb dL_law_19 rfl (lv_at hl 3 rfl) ?_
  refine va_slen hx hb hX hbl hbA hS dL_law_20 ?_
  refine lv_topi (fun x15 ex15 => ?_)
  obtain rfl : 6 = x15 := (ex15.trans rfl).symm
  refine lv_bipush (v := 6) hx hb dL_law_21 (by decide) ?_
  refine lv_isub hx hb dL_law_23 ?_
  refine lv_topi (fun x16 ex16 => ?_)
  obtain rfl : 0 = x16 := (ex16.trans (by decide)).symm
  refine lv_icmp_gt (tgt := 1684) hx hb dL_law_24 (by decide) (fun _ => ?_) (fun c => absurd c (by decide))
  refine lv_iconst (v := 1) hx hb dL_law_1684 (by decide) ?_
  refine va_forget (fun q h => hS.2.2 q h) ?_
  refine W.widen (k := 600000) (n := 7302250) (Nat.le_of_ble_eq_true rfl) (Nat.le_of_ble_eq_true rfl) ?_
  exact W.base (lw_ret (Drawn.sameBut.refl s.drawn lw_cs) hx hb hr hlocks dL_law_1685)
set_option maxRecDepth 20000 in
theorem gv_law14_74_X11_feed : GoodIn lw_tbl (wsV RL 74 RX11 yX11_feed v_X11_feed) := goodIn_app (goodIn_r _ [847, 848, 849, 103] (by decide +kernel) (by decide +kernel)) (gi tb_X11_feed gd_X11_feed)
set_option maxRecDepth 20000 in
theorem gv_law14_78_X12_feed : GoodIn lw_tbl (wsV RL 78 RX12 yX12_feed v_X12_feed) := goodIn_app (goodIn_r _ [1745, 1746, 1747, 114] (by decide +kernel) (by decide +kernel)) (gi tb_X12_feed gd_X12_feed)
set_option maxHeartbeats 4000000 in
set_option maxRecDepth 100000 in
theorem law_case_14 {p : Program} {e : Env} {s : State} {m : MethodId} {below : List Frame} {meth : Method} {c : Code} (l : Launch) (G : va_G) (cI cJ cZ cD cR cT : ClassId) {b : Nat} {xs : Nat → Int32} (h0 k0 h0_0 h0_1 h0_2 h0_3 h0_6 h0_7 h0_8 h0_10 h0_11 h0_13 h0_6_1 h0_6_2 k0_2 k0_3 k0_4 k0_5 k0_9 k0_10 k0_11 k0_20 k0_22 k0_23 k0_25 k0_26 k0_29 k0_30 k0_31 k0_32 k0_39 k0_40 k0_42 k0_44 k0_45 : Nat) {H : Heap} {locs : List Loc} {ls : Array Slot} (hx : p.tables.exec = Jvm.exec) (hb : c.code = code) (hr : meth.sig.returnType = ret) (hml : c.maxLocals = 4) (hown : s.vm.findClass RL = some m.cls) (hts : ∀ w ∈ lw_tbl, w.before #[Value.ref b] s = true) (hX : va_X b 6 xs s s.heap) (hbl : b < s.heap.size) (hlocks : meth.locks = false) (hKK : KK G (tys6 cI cJ cZ cD cR cT) s) (hP : va_P G vwCl [(h0, .inr (11, [.ref h0_0, .ref h0_1, .ref h0_2, .ref h0_3, .int 0, .int 0, .ref h0_6, .ref h0_7, .ref h0_8, .int 0, .ref h0_10, .ref h0_11, .int 0, .ref h0_13, .int 0, .int 0])), (h0_6, .inr (8, [.int 0, .ref h0_6_1, .ref h0_6_2, .int 0])), (h0_6_1, .inl (cI, 400, .inl (fun _ => 0))), (k0, .inr (12, [.int 0, .int 0, .ref k0_2, .ref k0_3, .ref k0_4, .ref k0_5, .int 0, .int 0, .int 0, .ref k0_9, .ref k0_10, .ref k0_11, .int 0, .int 0, .int 0, .int 0, .long 0, .int (-1), .int 0, .int 0, .ref k0_20, .int 0, .ref k0_22, .ref k0_23, .int 0, .ref k0_25, .ref k0_26, .int 0, .int 0, .ref k0_29, .ref k0_30, .ref k0_31, .ref k0_32, .int 0, .long 0, .long 0, .long 0, .long 0, .int 0, .ref k0_39, .ref k0_40, .int 0, .ref k0_42, .int 0, .ref k0_44, .ref k0_45, .int 0, .int 0, .int 0, .int 0, .int 0, .int 0])), (k0_11, .inl (cI, 400, .inl (fun _ => 0)))] H) (hD : va_D (fun q : Nat => s.heap.size ≤ q) [(h0, .inr (11, [.ref h0_0, .ref h0_1, .ref h0_2, .ref h0_3, .int 0, .int 0, .ref h0_6, .ref h0_7, .ref h0_8, .int 0, .ref h0_10, .ref h0_11, .int 0, .ref h0_13, .int 0, .int 0])), (h0_6, .inr (8, [.int 0, .ref h0_6_1, .ref h0_6_2, .int 0])), (h0_6_1, .inl (cI, 400, .inl (fun _ => 0))), (k0, .inr (12, [.int 0, .int 0, .ref k0_2, .ref k0_3, .ref k0_4, .ref k0_5, .int 0, .int 0, .int 0, .ref k0_9, .ref k0_10, .ref k0_11, .int 0, .int 0, .int 0, .int 0, .long 0, .int (-1), .int 0, .int 0, .ref k0_20, .int 0, .ref k0_22, .ref k0_23, .int 0, .ref k0_25, .ref k0_26, .int 0, .int 0, .ref k0_29, .ref k0_30, .ref k0_31, .ref k0_32, .int 0, .long 0, .long 0, .long 0, .long 0, .int 0, .ref k0_39, .ref k0_40, .int 0, .ref k0_42, .int 0, .ref k0_44, .ref k0_45, .int 0, .int 0, .int 0, .int 0, .int 0, .int 0])), (k0_11, .inl (cI, 400, .inl (fun _ => 0)))]) (hS : va_S (fun q : Nat => s.heap.size ≤ q) s.heap H locs) (hl : lv_has ls 4 [(3, .int 0), (2, .ref k0), (1, .ref h0), (0, .ref b)]) : W p l e room_1 s m #[Value.ref b] below meth c H locs 221 158368 (lw_Z below #[Value.ref b] s) (F0 m 698 ls []) := by
  have hK := hKK.1
  have hA : ∀ q : Nat, s.heap.size ≤ q → (fun q : Nat => s.heap.size ≤ q) q := fun _ h => h
  have hbA : ¬ (fun q : Nat => s.heap.size ≤ q) b := Nat.not_le.mpr hbl
  refine lv_aload_n hx hb dL_law_698 rfl (lv_at hl 2 rfl) ?_
  refine lv_aload_n hx hb dL_law_699 rfl (lv_at hl 3 rfl) ?_
  refine lv_iload_n hx hb dL_law_700 rfl (lv_at hl 0 rfl) ?_
  refine lv_iconst (v := 1) hx hb dL_law_701 (by decide) ?_
  refine lv_iadd hx hb dL_law_702 ?_
  refine lv_topi (fun x1 ex1 => ?_)
  obtain rfl : 1 = x1 := (ex1.trans (by decide)).symm
  refine va_sld hx hb hX hbl hbA hS (vp_in_iff.mpr (by decide)) dL_law_703 ?_
  refine lv_topi (fun x2 ex2 => ?_)
  obtain rfl : xs 1 = x2 := (ex2.trans rfl).symm
  refine lv_aload_n hx hb dL_law_704 rfl (lv_at hl 3 rfl) ?_
  refine lv_iload_n hx hb dL_law_705 rfl (lv_at hl 0 rfl) ?_
  refine lv_iconst (v := 2) hx hb dL_law_706 (by decide) ?_
  refine lv_iadd hx hb dL_law_707 ?_
  refine lv_topi (fun x3 ex3 => ?_)
  obtain rfl : 2 = x3 := (ex3.trans (by decide)).symm
  refine va_sld hx hb hX hbl hbA hS (vp_in_iff.mpr (by decide)) dL_law_708 ?_
  refine lv_topi (fun x4 ex4 => ?_)
  obtain rfl : xs 2 = x4 := (ex4.trans rfl).symm
  refine lv_aload_n hx hb dL_law_709 rfl (lv_at hl 3 rfl) ?_
  refine lv_iload_n hx hb dL_law_710 rfl (lv_at hl 0 rfl) ?_
  refine lv_iconst (v := 3) hx hb dL_law_711 (by decide) ?_
  refine lv_iadd hx hb dL_law_712 ?_
  refine lv_topi (fun x5 ex5 => ?_)
  obtain rfl : 3 = x5 := (ex5.trans (by decide)).symm
  refine va_sld hx hb hX hbl hbA hS (vp_in_iff.mpr (by decide)) dL_law_713 ?_
  refine lv_topi (fun x6 ex6 => ?_)
  obtain rfl : xs 3 = x6 := (ex6.trans rfl).symm
  refine lv_aload_n hx hb dL_law_714 rfl (lv_at hl 3 rfl) ?_
  refine lv_iload_n hx hb dL_law_715 rfl (lv_at hl 0 rfl) ?_
  refine lv_iconst (v := 4) hx hb dL_law_716 (by decide) ?_
  refine lv_iadd hx hb dL_law_717 ?_
  refine lv_topi (fun x7 ex7 => ?_)
  obtain rfl : 4 = x7 := (ex7.trans (by decide)).symm
  refine va_sld hx hb hX hbl hbA hS (vp_in_iff.mpr (by decide)) dL_law_718 ?_
  refine lv_topi (fun x8 ex8 => ?_)
  obtain rfl : xs 4 = x8 := (ex8.trans rfl).symm
  refine lv_aload_n hx hb dL_law_719 rfl (lv_at hl 3 rfl) ?_
  refine lv_iload_n hx hb dL_law_720 rfl (lv_at hl 0 rfl) ?_
  refine lv_iconst (v := 5) hx hb dL_law_721 (by decide) ?_
  refine lv_iadd hx hb dL_law_722 ?_
  refine lv_topi (fun x9 ex9 => ?_)
  obtain rfl : 5 = x9 := (ex9.trans (by decide)).symm
  refine va_sld hx hb hX hbl hbA hS (vp_in_iff.mpr (by decide)) dL_law_723 ?_
  refine lv_topi (fun x10 ex10 => ?_)
  obtain rfl : xs 5 = x10 := (ex10.trans rfl).symm
  refine goV (As := [.int (xs 1), .int (xs 2), .int (xs 3), .int (xs 4), .int (xs 5)]) (rest := []) (wr := [(k0, .inr (12, [.int 0, .int 0, .ref k0_2, .ref k0_3, .ref k0_4, .ref k0_5, .int 0, .int 0, .int 0, .ref k0_9, .ref k0_10, .ref k0_11, .int 0, .int 0, .int 0, .int 0, .long 0, .int (-1), .int 0, .int 0, .ref k0_20, .int 0, .ref k0_22, .ref k0_23, .int 0, .ref k0_25, .ref k0_26, .int 0, .int 0, .ref k0_29, .ref k0_30, .ref k0_31, .ref k0_32, .int 0, .long 0, .long 0, .long 0, .long 0, .int 0, .ref k0_39, .ref k0_40, .int 0, .ref k0_42, .int 0, .ref k0_44, .ref k0_45, .int 0, .int 0, .int 0, .int 0, .int 0, .int 0])), (k0_11, .inl (cI, 400, .inl (fun _ => 0)))]) ⟨hx, hb, hml, hown, hts⟩ (c_X11_feed l G cI cJ cZ cD cR cT h0 (xs 1) (xs 2) (xs 3) (xs 4) (xs 5) h0_0 h0_1 h0_2 h0_3 h0_6 h0_7 h0_8 h0_10 h0_11 h0_13 h0_6_1 h0_6_2 _) (cwV 5 hts gv_law14_74_X11_feed rfl rfl rfl (by decide +kernel) ⟨Nat.le_of_ble_eq_true rfl, Nat.le_of_ble_eq_true rfl⟩) 0 rfl rfl rfl hKK hP hD hS hA [0, 1, 2] [3, 4] rfl rfl (by decide +kernel) (by decide +kernel) (by decide +kernel) rfl hl.1 rfl (lv_room (Nat.le_of_ble_eq_true rfl)) dL_law_724 ⟨Nat.le_of_ble_eq_true rfl, Nat.le_of_ble_eq_true rfl⟩ (fun v12 q11 gq11 H locs hv12 => appW (ws' := [(k0, .inr (12, [.int 0, .int 0, .ref k0_2, .ref k0_3, .ref k0_4, .ref k0_5, .int 0, .int 0, .int 0, .ref k0_9, .ref k0_10, .ref k0_11, .int 0, .int 0, .int 0, .int 0, .long 0, .int (-1), .int 0, .int 0, .ref k0_20, .int 0, .ref k0_22, .ref k0_23, .int 0, .ref k0_25, .ref k0_26, .int 0, .int 0, .ref k0_29, .ref k0_30, .ref k0_31, .ref k0_32, .int 0, .long 0, .long 0, .long 0, .long 0, .int 0, .ref k0_39, .ref k0_40, .int 0, .ref k0_42, .int 0, .ref k0_44, .ref k0_45, .int 0, .int 0, .int 0, .int 0, .int 0, .int 0])), (k0_11, .inl (cI, 400, .inl (fun _ => 0)))]) rfl (fun hP hD hS => ?_))
  obtain ⟨r13, rfl, hr13⟩ := hv12
  refine lv_aload_n hx hb dL_law_727 rfl (lv_at hl 1 rfl) ?_
  refine lv_aload_n hx hb dL_law_728 rfl (lv_at hl 3 rfl) ?_
  refine lv_iload_n hx hb dL_law_729 rfl (lv_at hl 0 rfl) ?_
  refine lv_iconst (v := 1) hx hb dL_law_730 (by decide) ?_
  refine lv_iadd hx hb dL_law_731 ?_
  refine lv_topi (fun x14 ex14 => ?_)
  obtain rfl : 1 = x14 := (ex14.trans (by decide)).symm
  refine va_sld hx hb hX hbl hbA hS (vp_in_iff.mpr (by decide)) dL_law_732 ?_
  refine lv_topi (fun x15 ex15 => ?_)
  obtain rfl : xs 1 = x15 := (ex15.trans rfl).symm
  refine lv_aload_n hx hb dL_law_733 rfl (lv_at hl 3 rfl) ?_
  refine lv_iload_n hx hb dL_law_734 rfl (lv_at hl 0 rfl) ?_
  refine lv_iconst (v := 2) hx hb dL_law_735 (by decide) ?_
  refine lv_iadd hx hb dL_law_736 ?_
  refine lv_topi (fun x16 ex16 => ?_)
  obtain rfl : 2 = x16 := (ex16.trans (by decide)).symm
  refine va_sld hx hb hX hbl hbA hS (vp_in_iff.mpr (by decide)) dL_law_737 ?_
  refine lv_topi (fun x17 ex17 => ?_)
  obtain rfl : xs 2 = x17 := (ex17.trans rfl).symm
  refine lv_aload_n hx hb dL_law_738 rfl (lv_at hl 3 rfl) ?_
  refine lv_iload_n hx hb dL_law_739 rfl (lv_at hl 0 rfl) ?_
  refine lv_iconst (v := 3) hx hb dL_law_740 (by decide) ?_
  refine lv_iadd hx hb dL_law_741 ?_
  refine lv_topi (fun x18 ex18 => ?_)
  obtain rfl : 3 = x18 := (ex18.trans (by decide)).symm
  refine va_sld hx hb hX hbl hbA hS (vp_in_iff.mpr (by decide)) dL_law_742 ?_
  refine lv_topi (fun x19 ex19 => ?_)
  obtain rfl : xs 3 = x19 := (ex19.trans rfl).symm
  refine lv_aload_n hx hb dL_law_743 rfl (lv_at hl 3 rfl) ?_
  refine lv_iload_n hx hb dL_law_744 rfl (lv_at hl 0 rfl) ?_
  refine lv_iconst (v := 4) hx hb dL_law_745 (by decide) ?_
  refine lv_iadd hx hb dL_law_746 ?_
  refine lv_topi (fun x20 ex20 => ?_)
  obtain rfl : 4 = x20 := (ex20.trans (by decide)).symm
  refine va_sld hx hb hX hbl hbA hS (vp_in_iff.mpr (by decide)) dL_law_747 ?_
  refine lv_topi (fun x21 ex21 => ?_)
  obtain rfl : xs 4 = x21 := (ex21.trans rfl).symm
  refine lv_aload_n hx hb dL_law_748 rfl (lv_at hl 3 rfl) ?_
  refine lv_iload_n hx hb dL_law_749 rfl (lv_at hl 0 rfl) ?_
  refine lv_iconst (v := 5) hx hb dL_law_750 (by decide) ?_
  refine lv_iadd hx hb dL_law_751 ?_
  refine lv_topi (fun x22 ex22 => ?_)
  obtain rfl : 5 = x22 := (ex22.trans (by decide)).symm
  refine va_sld hx hb hX hbl hbA hS (vp_in_iff.mpr (by decide)) dL_law_752 ?_
  refine lv_topi (fun x23 ex23 => ?_)
  obtain rfl : xs 5 = x23 := (ex23.trans rfl).symm
  refine goV (As := [.int (xs 1), .int (xs 2), .int (xs 3), .int (xs 4), .int (xs 5)]) (rest := [.int r13]) (wr := []) ⟨hx, hb, hml, hown, hts⟩ (c_X12_feed l G cI cJ cZ cD cR cT k0 (xs 1) (xs 2) (xs 3) (xs 4) (xs 5) k0_2 k0_3 k0_4 k0_5 k0_9 k0_10 k0_11 k0_20 k0_22 k0_23 k0_25 k0_26 k0_29 k0_30 k0_31 k0_32 k0_39 k0_40 k0_42 k0_44 k0_45 _) (cwV 5 hts gv_law14_78_X12_feed rfl rfl rfl (by decide +kernel) ⟨Nat.le_of_ble_eq_true rfl, Nat.le_of_ble_eq_true rfl⟩) 0 rfl rfl rfl hKK hP hD hS hA [0, 1] [] rfl rfl (by decide +kernel) (by decide +kernel) (by decide +kernel) rfl hl.1 rfl (lv_room (Nat.le_of_ble_eq_true rfl)) dL_law_753 ⟨Nat.le_of_ble_eq_true rfl, Nat.le_of_ble_eq_true rfl⟩ (fun v25 q24 gq24 H locs hv25 => appW (ws' := []) rfl (fun hP hD hS => ?_))
  obtain ⟨r26, rfl, hr26⟩ := hv25
  refine lv_icmp_eq (tgt := 1678) hx hb dL_law_756 (by decide) (fun _ => ?_) (fun c => absurd (hr13.trans hr26.symm) c)
  refine lv_iinc (v := 6) (lv' := [(3, .int 6), (2, .ref k0), (1, .ref h0), (0, .ref b)]) hx hb dL_law_1678 hl (k := 0) rfl (by decide) (by decide) rfl (fun ls hl => ?_)
  refine lv_goto (tgt := 18) hx hb dL_law_1681 (by decide) ?_
  refine lv_iload_n hx hb dL_law_18 rfl (lv_at hl 0 rfl) ?_
  refine lv_aload_n hx hb dL_law_19 rfl (lv_at hl 3 rfl) ?_
  refine va_slen hx hb hX hbl hbA hS dL_law_20 ?_
  refine lv_topi (fun x27 ex27 => ?_)
  obtain rfl : 6 = x27 := (ex27.trans rfl).symm
  refine lv_bipush (v := 6) hx hb dL_law_21 (by decide) ?_
  refine lv_isub hx hb dL_law_23 ?_
  refine lv_topi (fun x28 ex28 => ?_)
  obtain rfl : 0 = x28 := (ex28.trans (by decide)).symm
  refine lv_icmp_gt (tgt := 1684) hx hb dL_law_24 (by decide) (fun _ => ?_) (fun c => absurd c (by decide))
  refine lv_iconst (v := 1) hx hb dL_law_1684 (by decide) ?_
  refine va_forget (fun q h => hS.2.2 q h) ?_
  refine W.widen (k := 600000) (n := 7302250) (Nat.le_of_ble_eq_true rfl) (Nat.le_of_ble_eq_true rfl) ?_
  exact W.base (lw_ret (Drawn.sameBut.refl s.drawn lw_cs) hx hb hr hlocks dL_law_1685)
set_option maxRecDepth 20000 in
theorem gv_law15_79_X11_end : GoodIn lw_tbl (wsV RL 79 RX11 yX11_end v_X11_end) := goodIn_app (goodIn_r _ [855, 856, 857, 103] (by decide +kernel) (by decide +kernel)) (gi tb_X11_end gd_X11_end)
set_option maxRecDepth 20000 in
theorem gv_law15_82_X12_end : GoodIn lw_tbl (wsV RL 82 RX12 yX12_end v_X12_end) := goodIn_app (goodIn_r _ [1753, 1754, 1755, 114] (by decide +kernel) (by decide +kernel)) (gi tb_X12_end gd_X12_end)
set_option maxHeartbeats 4000000 in
set_option maxRecDepth 100000 in
theorem law_case_15 {p : Program} {e : Env} {s : State} {m : MethodId} {below : List Frame} {meth : Method} {c : Code} (l : Launch) (G : va_G) (cI cJ cZ cD cR cT : ClassId) {b : Nat} {xs : Nat → Int32} (h0 k0 h0_0 h0_1 h0_2 h0_3 h0_6 h0_7 h0_8 h0_10 h0_11 h0_13 h0_6_1 h0_6_2 k0_2 k0_3 k0_4 k0_5 k0_9 k0_10 k0_11 k0_20 k0_22 k0_23 k0_25 k0_26 k0_29 k0_30 k0_31 k0_32 k0_39 k0_40 k0_42 k0_44 k0_45 : Nat) {H : Heap} {locs : List Loc} {ls : Array Slot} (hx : p.tables.exec = Jvm.exec) (hb : c.code = code) (hr : meth.sig.returnType = ret) (hml : c.maxLocals = 4) (hown : s.vm.findClass RL = some m.cls) (hts : ∀ w ∈ lw_tbl, w.before #[Value.ref b] s = true) (hX : va_X b 6 xs s s.heap) (hbl : b < s.heap.size) (hlocks : meth.locks = false) (hKK : KK G (tys6 cI cJ cZ cD cR cT) s) (hP : va_P G vwCl [(h0, .inr (11, [.ref h0_0, .ref h0_1, .ref h0_2, .ref h0_3, .int 0, .int 0, .ref h0_6, .ref h0_7, .ref h0_8, .int 0, .ref h0_10, .ref h0_11, .int 0, .ref h0_13, .int 0, .int 0])), (h0_6, .inr (8, [.int 0, .ref h0_6_1, .ref h0_6_2, .int 0])), (k0, .inr (12, [.int 0, .int 0, .ref k0_2, .ref k0_3, .ref k0_4, .ref k0_5, .int 0, .int 0, .int 0, .ref k0_9, .ref k0_10, .ref k0_11, .int 0, .int 0, .int 0, .int 0, .long 0, .int (-1), .int 0, .int 0, .ref k0_20, .int 0, .ref k0_22, .ref k0_23, .int 0, .ref k0_25, .ref k0_26, .int 0, .int 0, .ref k0_29, .ref k0_30, .ref k0_31, .ref k0_32, .int 0, .long 0, .long 0, .long 0, .long 0, .int 0, .ref k0_39, .ref k0_40, .int 0, .ref k0_42, .int 0, .ref k0_44, .ref k0_45, .int 0, .int 0, .int 0, .int 0, .int 0, .int 0]))] H) (hD : va_D (fun q : Nat => s.heap.size ≤ q) [(h0, .inr (11, [.ref h0_0, .ref h0_1, .ref h0_2, .ref h0_3, .int 0, .int 0, .ref h0_6, .ref h0_7, .ref h0_8, .int 0, .ref h0_10, .ref h0_11, .int 0, .ref h0_13, .int 0, .int 0])), (h0_6, .inr (8, [.int 0, .ref h0_6_1, .ref h0_6_2, .int 0])), (k0, .inr (12, [.int 0, .int 0, .ref k0_2, .ref k0_3, .ref k0_4, .ref k0_5, .int 0, .int 0, .int 0, .ref k0_9, .ref k0_10, .ref k0_11, .int 0, .int 0, .int 0, .int 0, .long 0, .int (-1), .int 0, .int 0, .ref k0_20, .int 0, .ref k0_22, .ref k0_23, .int 0, .ref k0_25, .ref k0_26, .int 0, .int 0, .ref k0_29, .ref k0_30, .ref k0_31, .ref k0_32, .int 0, .long 0, .long 0, .long 0, .long 0, .int 0, .ref k0_39, .ref k0_40, .int 0, .ref k0_42, .int 0, .ref k0_44, .ref k0_45, .int 0, .int 0, .int 0, .int 0, .int 0, .int 0]))]) (hS : va_S (fun q : Nat => s.heap.size ≤ q) s.heap H locs) (hl : lv_has ls 4 [(3, .int 0), (2, .ref k0), (1, .ref h0), (0, .ref b)]) : W p l e room_1 s m #[Value.ref b] below meth c H locs 221 158368 (lw_Z below #[Value.ref b] s) (F0 m 761 ls []) := by
  have hK := hKK.1
  have hA : ∀ q : Nat, s.heap.size ≤ q → (fun q : Nat => s.heap.size ≤ q) q := fun _ h => h
  have hbA : ¬ (fun q : Nat => s.heap.size ≤ q) b := Nat.not_le.mpr hbl
  refine lv_aload_n hx hb dL_law_761 rfl (lv_at hl 2 rfl) ?_
  refine lv_aload_n hx hb dL_law_762 rfl (lv_at hl 3 rfl) ?_
  refine lv_iload_n hx hb dL_law_763 rfl (lv_at hl 0 rfl) ?_
  refine lv_iconst (v := 1) hx hb dL_law_764 (by decide) ?_
  refine lv_iadd hx hb dL_law_765 ?_
  refine lv_topi (fun x1 ex1 => ?_)
  obtain rfl : 1 = x1 := (ex1.trans (by decide)).symm
  refine va_sld hx hb hX hbl hbA hS (vp_in_iff.mpr (by decide)) dL_law_766 ?_
  refine lv_topi (fun x2 ex2 => ?_)
  obtain rfl : xs 1 = x2 := (ex2.trans rfl).symm
  refine goV (As := [.int (xs 1)]) (rest := []) (wr := [(k0, .inr (12, [.int 0, .int 0, .ref k0_2, .ref k0_3, .ref k0_4, .ref k0_5, .int 0, .int 0, .int 0, .ref k0_9, .ref k0_10, .ref k0_11, .int 0, .int 0, .int 0, .int 0, .long 0, .int (-1), .int 0, .int 0, .ref k0_20, .int 0, .ref k0_22, .ref k0_23, .int 0, .ref k0_25, .ref k0_26, .int 0, .int 0, .ref k0_29, .ref k0_30, .ref k0_31, .ref k0_32, .int 0, .long 0, .long 0, .long 0, .long 0, .int 0, .ref k0_39, .ref k0_40, .int 0, .ref k0_42, .int 0, .ref k0_44, .ref k0_45, .int 0, .int 0, .int 0, .int 0, .int 0, .int 0]))]) ⟨hx, hb, hml, hown, hts⟩ (c_X11_end l G cI cJ cZ cD cR cT h0 (xs 1) h0_0 h0_1 h0_2 h0_3 h0_6 h0_7 h0_8 h0_10 h0_11 h0_13 h0_6_1 h0_6_2 _) (cwV 1 hts gv_law15_79_X11_end rfl rfl rfl (by decide +kernel) ⟨Nat.le_of_ble_eq_true rfl, Nat.le_of_ble_eq_true rfl⟩) 0 rfl rfl rfl hKK hP hD hS hA [0, 1] [2] rfl rfl (by decide +kernel) (by decide +kernel) (by decide +kernel) rfl hl.1 rfl (lv_room (Nat.le_of_ble_eq_true rfl)) dL_law_767 ⟨Nat.le_of_ble_eq_true rfl, Nat.le_of_ble_eq_true rfl⟩ (fun v4 q3 gq3 H locs hv4 => appW (ws' := [(k0, .inr (12, [.int 0, .int 0, .ref k0_2, .ref k0_3, .ref k0_4, .ref k0_5, .int 0, .int 0, .int 0, .ref k0_9, .ref k0_10, .ref k0_11, .int 0, .int 0, .int 0, .int 0, .long 0, .int (-1), .int 0, .int 0, .ref k0_20, .int 0, .ref k0_22, .ref k0_23, .int 0, .ref k0_25, .ref k0_26, .int 0, .int 0, .ref k0_29, .ref k0_30, .ref k0_31, .ref k0_32, .int 0, .long 0, .long 0, .long 0, .long 0, .int 0, .ref k0_39, .ref k0_40, .int 0, .ref k0_42, .int 0, .ref k0_44, .ref k0_45, .int 0, .int 0, .int 0, .int 0, .int 0, .int 0]))]) rfl (fun hP hD hS => ?_))
  obtain ⟨r5, rfl, hr5⟩ := hv4
  refine lv_aload_n hx hb dL_law_770 rfl (lv_at hl 1 rfl) ?_
  refine lv_aload_n hx hb dL_law_771 rfl (lv_at hl 3 rfl) ?_
  refine lv_iload_n hx hb dL_law_772 rfl (lv_at hl 0 rfl) ?_
  refine lv_iconst (v := 1) hx hb dL_law_773 (by decide) ?_
  refine lv_iadd hx hb dL_law_774 ?_
  refine lv_topi (fun x6 ex6 => ?_)
  obtain rfl : 1 = x6 := (ex6.trans (by decide)).symm
  refine va_sld hx hb hX hbl hbA hS (vp_in_iff.mpr (by decide)) dL_law_775 ?_
  refine lv_topi (fun x7 ex7 => ?_)
  obtain rfl : xs 1 = x7 := (ex7.trans rfl).symm
  refine goV (As := [.int (xs 1)]) (rest := [.int r5]) (wr := []) ⟨hx, hb, hml, hown, hts⟩ (c_X12_end l G cI cJ cZ cD cR cT k0 (xs 1) k0_2 k0_3 k0_4 k0_5 k0_9 k0_10 k0_11 k0_20 k0_22 k0_23 k0_25 k0_26 k0_29 k0_30 k0_31 k0_32 k0_39 k0_40 k0_42 k0_44 k0_45 _) (cwV 1 hts gv_law15_82_X12_end rfl rfl rfl (by decide +kernel) ⟨Nat.le_of_ble_eq_true rfl, Nat.le_of_ble_eq_true rfl⟩) 0 rfl rfl rfl hKK hP hD hS hA [0] [] rfl rfl (by decide +kernel) (by decide +kernel) (by decide +kernel) rfl hl.1 rfl (lv_room (Nat.le_of_ble_eq_true rfl)) dL_law_776 ⟨Nat.le_of_ble_eq_true rfl, Nat.le_of_ble_eq_true rfl⟩ (fun v9 q8 gq8 H locs hv9 => appW (ws' := []) rfl (fun hP hD hS => ?_))
  obtain ⟨r10, rfl, hr10⟩ := hv9
  refine lv_icmp_eq (tgt := 1678) hx hb dL_law_779 (by decide) (fun _ => ?_) (fun c => absurd (hr5.trans hr10.symm) c)
  refine lv_iinc (v := 6) (lv' := [(3, .int 6), (2, .ref k0), (1, .ref h0), (0, .ref b)]) hx hb dL_law_1678 hl (k := 0) rfl (by decide) (by decide) rfl (fun ls hl => ?_)
  refine lv_goto (tgt := 18) hx hb dL_law_1681 (by decide) ?_
  refine lv_iload_n hx hb dL_law_18 rfl (lv_at hl 0 rfl) ?_
  refine lv_aload_n hx hb dL_law_19 rfl (lv_at hl 3 rfl) ?_
  refine va_slen hx hb hX hbl hbA hS dL_law_20 ?_
  refine lv_topi (fun x11 ex11 => ?_)
  obtain rfl : 6 = x11 := (ex11.trans rfl).symm
  refine lv_bipush (v := 6) hx hb dL_law_21 (by decide) ?_
  refine lv_isub hx hb dL_law_23 ?_
  refine lv_topi (fun x12 ex12 => ?_)
  obtain rfl : 0 = x12 := (ex12.trans (by decide)).symm
  refine lv_icmp_gt (tgt := 1684) hx hb dL_law_24 (by decide) (fun _ => ?_) (fun c => absurd c (by decide))
  refine lv_iconst (v := 1) hx hb dL_law_1684 (by decide) ?_
  refine va_forget (fun q h => hS.2.2 q h) ?_
  refine W.widen (k := 600000) (n := 7302250) (Nat.le_of_ble_eq_true rfl) (Nat.le_of_ble_eq_true rfl) ?_
  exact W.base (lw_ret (Drawn.sameBut.refl s.drawn lw_cs) hx hb hr hlocks dL_law_1685)
set_option maxRecDepth 20000 in
theorem gv_law16_83_X11_text : GoodIn lw_tbl (wsV RL 83 RX11 yX11_text v_X11_text) := goodIn_app (goodIn_r _ [859, 860, 861, 103] (by decide +kernel) (by decide +kernel)) (gi tb_X11_text gd_X11_text)
set_option maxRecDepth 20000 in
theorem gv_law16_86_X12_text : GoodIn lw_tbl (wsV RL 86 RX12 yX12_text v_X12_text) := goodIn_app (goodIn_r _ [1761, 1762, 1763, 114] (by decide +kernel) (by decide +kernel)) (gi tb_X12_text gd_X12_text)
set_option maxHeartbeats 4000000 in
set_option maxRecDepth 100000 in
theorem law_case_16 {p : Program} {e : Env} {s : State} {m : MethodId} {below : List Frame} {meth : Method} {c : Code} (l : Launch) (G : va_G) (cI cJ cZ cD cR cT : ClassId) {b : Nat} {xs : Nat → Int32} (h0 k0 h0_0 h0_1 h0_2 h0_3 h0_6 h0_7 h0_8 h0_10 h0_11 h0_13 h0_0_0 h0_0_1 h0_0_2 h0_0_3 h0_0_4 h0_0_5 h0_0_8 h0_0_15 h0_0_16 h0_0_4_1 h0_0_4_2 h0_0_4_3 h0_6_1 h0_6_2 h0_7_3 h0_7_4 h0_7_5 h0_7_6 h0_7_7 h0_7_9 h0_7_10 h0_7_12 h0_7_13 h0_7_14 k0_2 k0_3 k0_4 k0_5 k0_9 k0_10 k0_11 k0_20 k0_22 k0_23 k0_25 k0_26 k0_29 k0_30 k0_31 k0_32 k0_39 k0_40 k0_42 k0_44 k0_45 : Nat) {H : Heap} {locs : List Loc} {ls : Array Slot} (hx : p.tables.exec = Jvm.exec) (hb : c.code = code) (hr : meth.sig.returnType = ret) (hml : c.maxLocals = 4) (hown : s.vm.findClass RL = some m.cls) (hts : ∀ w ∈ lw_tbl, w.before #[Value.ref b] s = true) (hX : va_X b 6 xs s s.heap) (hbl : b < s.heap.size) (hlocks : meth.locks = false) (hKK : KK G (tys6 cI cJ cZ cD cR cT) s) (hP : va_P G vwCl [(h0, .inr (11, [.ref h0_0, .ref h0_1, .ref h0_2, .ref h0_3, .int 0, .int 0, .ref h0_6, .ref h0_7, .ref h0_8, .int 0, .ref h0_10, .ref h0_11, .int 0, .ref h0_13, .int 0, .int 0])), (h0_0, .inr (0, [.ref h0_0_0, .ref h0_0_1, .ref h0_0_2, .ref h0_0_3, .ref h0_0_4, .ref h0_0_5, .int 0, .int 0, .ref h0_0_8, .int 0, .int 0, .int 0, .int 0, .long 0, .int 0, .ref h0_0_15, .ref h0_0_16])), (h0_0_4, .inr (2, [.int 0, .ref h0_0_4_1, .ref h0_0_4_2, .ref h0_0_4_3])), (h0_6, .inr (8, [.int 0, .ref h0_6_1, .ref h0_6_2, .int 0])), (h0_7, .inr (5, [.int (-1), .int 0, .int 0, .ref h0_7_3, .ref h0_7_4, .ref h0_7_5, .ref h0_7_6, .ref h0_7_7, .int 0, .ref h0_7_9, .ref h0_7_10, .int 0, .ref h0_7_12, .ref h0_7_13, .ref h0_7_14, .int 0, .int 0])), (h0_7_3, .inl (cI, 12, .inl (fun _ => 0))), (h0_7_4, .inl (cI, 12, .inl (fun _ => 0))), (h0_7_5, .inl (cI, 12, .inl (fun _ => 0))), (h0_7_6, .inl (cI, 12, .inl (fun _ => 0))), (h0_7_7, .inl (cI, 12, .inl (fun _ => 0))), (h0_7_12, .inl (cI, 401, .inl (fun _ => 0))), (h0_7_13, .inl (cI, 401, .inl (fun _ => 0))), (k0, .inr (12, [.int 0, .int 0, .ref k0_2, .ref k0_3, .ref k0_4, .ref k0_5, .int 0, .int 0, .int 0, .ref k0_9, .ref k0_10, .ref k0_11, .int 0, .int 0, .int 0, .int 0, .long 0, .int (-1), .int 0, .int 0, .ref k0_20, .int 0, .ref k0_22, .ref k0_23, .int 0, .ref k0_25, .ref k0_26, .int 0, .int 0, .ref k0_29, .ref k0_30, .ref k0_31, .ref k0_32, .int 0, .long 0, .long 0, .long 0, .long 0, .int 0, .ref k0_39, .ref k0_40, .int 0, .ref k0_42, .int 0, .ref k0_44, .ref k0_45, .int 0, .int 0, .int 0, .int 0, .int 0, .int 0])), (k0_2, .inl (cI, 35942, .inl mrow))] H) (hD : va_D (fun q : Nat => s.heap.size ≤ q) [(h0, .inr (11, [.ref h0_0, .ref h0_1, .ref h0_2, .ref h0_3, .int 0, .int 0, .ref h0_6, .ref h0_7, .ref h0_8, .int 0, .ref h0_10, .ref h0_11, .int 0, .ref h0_13, .int 0, .int 0])), (h0_0, .inr (0, [.ref h0_0_0, .ref h0_0_1, .ref h0_0_2, .ref h0_0_3, .ref h0_0_4, .ref h0_0_5, .int 0, .int 0, .ref h0_0_8, .int 0, .int 0, .int 0, .int 0, .long 0, .int 0, .ref h0_0_15, .ref h0_0_16])), (h0_0_4, .inr (2, [.int 0, .ref h0_0_4_1, .ref h0_0_4_2, .ref h0_0_4_3])), (h0_6, .inr (8, [.int 0, .ref h0_6_1, .ref h0_6_2, .int 0])), (h0_7, .inr (5, [.int (-1), .int 0, .int 0, .ref h0_7_3, .ref h0_7_4, .ref h0_7_5, .ref h0_7_6, .ref h0_7_7, .int 0, .ref h0_7_9, .ref h0_7_10, .int 0, .ref h0_7_12, .ref h0_7_13, .ref h0_7_14, .int 0, .int 0])), (h0_7_3, .inl (cI, 12, .inl (fun _ => 0))), (h0_7_4, .inl (cI, 12, .inl (fun _ => 0))), (h0_7_5, .inl (cI, 12, .inl (fun _ => 0))), (h0_7_6, .inl (cI, 12, .inl (fun _ => 0))), (h0_7_7, .inl (cI, 12, .inl (fun _ => 0))), (h0_7_12, .inl (cI, 401, .inl (fun _ => 0))), (h0_7_13, .inl (cI, 401, .inl (fun _ => 0))), (k0, .inr (12, [.int 0, .int 0, .ref k0_2, .ref k0_3, .ref k0_4, .ref k0_5, .int 0, .int 0, .int 0, .ref k0_9, .ref k0_10, .ref k0_11, .int 0, .int 0, .int 0, .int 0, .long 0, .int (-1), .int 0, .int 0, .ref k0_20, .int 0, .ref k0_22, .ref k0_23, .int 0, .ref k0_25, .ref k0_26, .int 0, .int 0, .ref k0_29, .ref k0_30, .ref k0_31, .ref k0_32, .int 0, .long 0, .long 0, .long 0, .long 0, .int 0, .ref k0_39, .ref k0_40, .int 0, .ref k0_42, .int 0, .ref k0_44, .ref k0_45, .int 0, .int 0, .int 0, .int 0, .int 0, .int 0])), (k0_2, .inl (cI, 35942, .inl mrow))]) (hS : va_S (fun q : Nat => s.heap.size ≤ q) s.heap H locs) (hl : lv_has ls 4 [(3, .int 0), (2, .ref k0), (1, .ref h0), (0, .ref b)]) : W p l e room_1 s m #[Value.ref b] below meth c H locs 221 158368 (lw_Z below #[Value.ref b] s) (F0 m 784 ls []) := by
  have hK := hKK.1
  have hA : ∀ q : Nat, s.heap.size ≤ q → (fun q : Nat => s.heap.size ≤ q) q := fun _ h => h
  have hbA : ¬ (fun q : Nat => s.heap.size ≤ q) b := Nat.not_le.mpr hbl
  refine lv_aload_n hx hb dL_law_784 rfl (lv_at hl 2 rfl) ?_
  refine lv_aload_n hx hb dL_law_785 rfl (lv_at hl 3 rfl) ?_
  refine lv_iload_n hx hb dL_law_786 rfl (lv_at hl 0 rfl) ?_
  refine lv_iconst (v := 1) hx hb dL_law_787 (by decide) ?_
  refine lv_iadd hx hb dL_law_788 ?_
  refine lv_topi (fun x1 ex1 => ?_)
  obtain rfl : 1 = x1 := (ex1.trans (by decide)).symm
  refine va_sld hx hb hX hbl hbA hS (vp_in_iff.mpr (by decide)) dL_law_789 ?_
  refine lv_topi (fun x2 ex2 => ?_)
  obtain rfl : xs 1 = x2 := (ex2.trans rfl).symm
  refine goV (As := [.int (xs 1)]) (rest := []) (wr := [(k0, .inr (12, [.int 0, .int 0, .ref k0_2, .ref k0_3, .ref k0_4, .ref k0_5, .int 0, .int 0, .int 0, .ref k0_9, .ref k0_10, .ref k0_11, .int 0, .int 0, .int 0, .int 0, .long 0, .int (-1), .int 0, .int 0, .ref k0_20, .int 0, .ref k0_22, .ref k0_23, .int 0, .ref k0_25, .ref k0_26, .int 0, .int 0, .ref k0_29, .ref k0_30, .ref k0_31, .ref k0_32, .int 0, .long 0, .long 0, .long 0, .long 0, .int 0, .ref k0_39, .ref k0_40, .int 0, .ref k0_42, .int 0, .ref k0_44, .ref k0_45, .int 0, .int 0, .int 0, .int 0, .int 0, .int 0])), (k0_2, .inl (cI, 35942, .inl mrow))]) ⟨hx, hb, hml, hown, hts⟩ (c_X11_text l G cI cJ cZ cD cR cT h0 (xs 1) h0_0 h0_1 h0_2 h0_3 h0_6 h0_7 h0_8 h0_10 h0_11 h0_13 h0_0_0 h0_0_1 h0_0_2 h0_0_3 h0_0_4 h0_0_5 h0_0_8 h0_0_15 h0_0_16 h0_0_4_1 h0_0_4_2 h0_0_4_3 h0_6_1 h0_6_2 h0_7_3 h0_7_4 h0_7_5 h0_7_6 h0_7_7 h0_7_9 h0_7_10 h0_7_12 h0_7_13 h0_7_14 _) (cwV 1 hts gv_law16_83_X11_text rfl rfl rfl (by decide +kernel) ⟨Nat.le_of_ble_eq_true rfl, Nat.le_of_ble_eq_true rfl⟩) 0 rfl rfl rfl hKK hP hD hS hA [0, 1, 2, 3, 4, 5, 6, 7, 8, 9, 10, 11] [12, 13] rfl rfl (by decide +kernel) (by decide +kernel) (by decide +kernel) rfl hl.1 rfl (lv_room (Nat.le_of_ble_eq_true rfl)) dL_law_790 ⟨Nat.le_of_ble_eq_true rfl, Nat.le_of_ble_eq_true rfl⟩ (fun v4 q3 gq3 H locs hv4 => appW (ws' := [(k0, .inr (12, [.int 0, .int 0, .ref k0_2, .ref k0_3, .ref k0_4, .ref k0_5, .int 0, .int 0, .int 0, .ref k0_9, .ref k0_10, .ref k0_11, .int 0, .int 0, .int 0, .int 0, .long 0, .int (-1), .int 0, .int 0, .ref k0_20, .int 0, .ref k0_22, .ref k0_23, .int 0, .ref k0_25, .ref k0_26, .int 0, .int 0, .ref k0_29, .ref k0_30, .ref k0_31, .ref k0_32, .int 0, .long 0, .long 0, .long 0, .long 0, .int 0, .ref k0_39, .ref k0_40, .int 0, .ref k0_42, .int 0, .ref k0_44, .ref k0_45, .int 0, .int 0, .int 0, .int 0, .int 0, .int 0])), (k0_2, .inl (cI, 35942, .inl mrow))]) rfl (fun hP hD hS => ?_))
  obtain ⟨r5, rfl, hr5⟩ := hv4
  refine lv_aload_n hx hb dL_law_793 rfl (lv_at hl 1 rfl) ?_
  refine lv_aload_n hx hb dL_law_794 rfl (lv_at hl 3 rfl) ?_
  refine lv_iload_n hx hb dL_law_795 rfl (lv_at hl 0 rfl) ?_
  refine lv_iconst (v := 1) hx hb dL_law_796 (by decide) ?_
  refine lv_iadd hx hb dL_law_797 ?_
  refine lv_topi (fun x6 ex6 => ?_)
  obtain rfl : 1 = x6 := (ex6.trans (by decide)).symm
  refine va_sld hx hb hX hbl hbA hS (vp_in_iff.mpr (by decide)) dL_law_798 ?_
  refine lv_topi (fun x7 ex7 => ?_)
  obtain rfl : xs 1 = x7 := (ex7.trans rfl).symm
  refine goV (As := [.int (xs 1)]) (rest := [.int r5]) (wr := []) ⟨hx, hb, hml, hown, hts⟩ (c_X12_text l G cI cJ cZ cD cR cT k0 (xs 1) k0_2 k0_3 k0_4 k0_5 k0_9 k0_10 k0_11 k0_20 k0_22 k0_23 k0_25 k0_26 k0_29 k0_30 k0_31 k0_32 k0_39 k0_40 k0_42 k0_44 k0_45 _) (cwV 1 hts gv_law16_86_X12_text rfl rfl rfl (by decide +kernel) ⟨Nat.le_of_ble_eq_true rfl, Nat.le_of_ble_eq_true rfl⟩) 0 rfl rfl rfl hKK hP hD hS hA [0, 1] [] rfl rfl (by decide +kernel) (by decide +kernel) (by decide +kernel) rfl hl.1 rfl (lv_room (Nat.le_of_ble_eq_true rfl)) dL_law_799 ⟨Nat.le_of_ble_eq_true rfl, Nat.le_of_ble_eq_true rfl⟩ (fun v9 q8 gq8 H locs hv9 => appW (ws' := []) rfl (fun hP hD hS => ?_))
  obtain ⟨r10, rfl, hr10⟩ := hv9
  refine lv_icmp_eq (tgt := 1678) hx hb dL_law_802 (by decide) (fun _ => ?_) (fun c => absurd (hr5.trans hr10.symm) c)
  refine lv_iinc (v := 6) (lv' := [(3, .int 6), (2, .ref k0), (1, .ref h0), (0, .ref b)]) hx hb dL_law_1678 hl (k := 0) rfl (by decide) (by decide) rfl (fun ls hl => ?_)
  refine lv_goto (tgt := 18) hx hb dL_law_1681 (by decide) ?_
  refine lv_iload_n hx hb dL_law_18 rfl (lv_at hl 0 rfl) ?_
  refine lv_aload_n hx hb dL_law_19 rfl (lv_at hl 3 rfl) ?_
  refine va_slen hx hb hX hbl hbA hS dL_law_20 ?_
  refine lv_topi (fun x11 ex11 => ?_)
  obtain rfl : 6 = x11 := (ex11.trans rfl).symm
  refine lv_bipush (v := 6) hx hb dL_law_21 (by decide) ?_
  refine lv_isub hx hb dL_law_23 ?_
  refine lv_topi (fun x12 ex12 => ?_)
  obtain rfl : 0 = x12 := (ex12.trans (by decide)).symm
  refine lv_icmp_gt (tgt := 1684) hx hb dL_law_24 (by decide) (fun _ => ?_) (fun c => absurd c (by decide))
  refine lv_iconst (v := 1) hx hb dL_law_1684 (by decide) ?_
  refine va_forget (fun q h => hS.2.2 q h) ?_
  refine W.widen (k := 600000) (n := 7302250) (Nat.le_of_ble_eq_true rfl) (Nat.le_of_ble_eq_true rfl) ?_
  exact W.base (lw_ret (Drawn.sameBut.refl s.drawn lw_cs) hx hb hr hlocks dL_law_1685)
set_option maxRecDepth 20000 in
theorem gv_law17_87_X11_fault : GoodIn lw_tbl (wsV RL 87 RX11 yX11_fault v_X11_fault) := goodIn_app (goodIn_r _ [1054, 1055, 1056, 103] (by decide +kernel) (by decide +kernel)) (gi tb_X11_fault gd_X11_fault)
set_option maxRecDepth 20000 in
theorem gv_law17_90_X12_fault : GoodIn lw_tbl (wsV RL 90 RX12 yX12_fault v_X12_fault) := goodIn_app (goodIn_r _ [1757, 1758, 1759, 114] (by decide +kernel) (by decide +kernel)) (gi tb_X12_fault gd_X12_fault)
set_option maxHeartbeats 4000000 in
set_option maxRecDepth 100000 in
theorem law_case_17 {p : Program} {e : Env} {s : State} {m : MethodId} {below : List Frame} {meth : Method} {c : Code} (l : Launch) (G : va_G) (cI cJ cZ cD cR cT : ClassId) {b : Nat} {xs : Nat → Int32} (h0 k0 h0_0 h0_1 h0_2 h0_3 h0_6 h0_7 h0_8 h0_10 h0_11 h0_13 h0_7_3 h0_7_4 h0_7_5 h0_7_6 h0_7_7 h0_7_9 h0_7_10 h0_7_12 h0_7_13 h0_7_14 k0_2 k0_3 k0_4 k0_5 k0_9 k0_10 k0_11 k0_20 k0_22 k0_23 k0_25 k0_26 k0_29 k0_30 k0_31 k0_32 k0_39 k0_40 k0_42 k0_44 k0_45 : Nat) {H : Heap} {locs : List Loc} {ls : Array Slot} (hx : p.tables.exec = Jvm.exec) (hb : c.code = code) (hr : meth.sig.returnType = ret) (hml : c.maxLocals = 4) (hown : s.vm.findClass RL = some m.cls) (hts : ∀ w ∈ lw_tbl, w.before #[Value.ref b] s = true) (hX : va_X b 6 xs s s.heap) (hbl : b < s.heap.size) (hlocks : meth.locks = false) (hKK : KK G (tys6 cI cJ cZ cD cR cT) s) (hP : va_P G vwCl [(h0, .inr (11, [.ref h0_0, .ref h0_1, .ref h0_2, .ref h0_3, .int 0, .int 0, .ref h0_6, .ref h0_7, .ref h0_8, .int 0, .ref h0_10, .ref h0_11, .int 0, .ref h0_13, .int 0, .int 0])), (h0_7, .inr (5, [.int (-1), .int 0, .int 0, .ref h0_7_3, .ref h0_7_4, .ref h0_7_5, .ref h0_7_6, .ref h0_7_7, .int 0, .ref h0_7_9, .ref h0_7_10, .int 0, .ref h0_7_12, .ref h0_7_13, .ref h0_7_14, .int 0, .int 0])), (k0, .inr (12, [.int 0, .int 0, .ref k0_2, .ref k0_3, .ref k0_4, .ref k0_5, .int 0, .int 0, .int 0, .ref k0_9, .ref k0_10, .ref k0_11, .int 0, .int 0, .int 0, .int 0, .long 0, .int (-1), .int 0, .int 0, .ref k0_20, .int 0, .ref k0_22, .ref k0_23, .int 0, .ref k0_25, .ref k0_26, .int 0, .int 0, .ref k0_29, .ref k0_30, .ref k0_31, .ref k0_32, .int 0, .long 0, .long 0, .long 0, .long 0, .int 0, .ref k0_39, .ref k0_40, .int 0, .ref k0_42, .int 0, .ref k0_44, .ref k0_45, .int 0, .int 0, .int 0, .int 0, .int 0, .int 0]))] H) (hD : va_D (fun q : Nat => s.heap.size ≤ q) [(h0, .inr (11, [.ref h0_0, .ref h0_1, .ref h0_2, .ref h0_3, .int 0, .int 0, .ref h0_6, .ref h0_7, .ref h0_8, .int 0, .ref h0_10, .ref h0_11, .int 0, .ref h0_13, .int 0, .int 0])), (h0_7, .inr (5, [.int (-1), .int 0, .int 0, .ref h0_7_3, .ref h0_7_4, .ref h0_7_5, .ref h0_7_6, .ref h0_7_7, .int 0, .ref h0_7_9, .ref h0_7_10, .int 0, .ref h0_7_12, .ref h0_7_13, .ref h0_7_14, .int 0, .int 0])), (k0, .inr (12, [.int 0, .int 0, .ref k0_2, .ref k0_3, .ref k0_4, .ref k0_5, .int 0, .int 0, .int 0, .ref k0_9, .ref k0_10, .ref k0_11, .int 0, .int 0, .int 0, .int 0, .long 0, .int (-1), .int 0, .int 0, .ref k0_20, .int 0, .ref k0_22, .ref k0_23, .int 0, .ref k0_25, .ref k0_26, .int 0, .int 0, .ref k0_29, .ref k0_30, .ref k0_31, .ref k0_32, .int 0, .long 0, .long 0, .long 0, .long 0, .int 0, .ref k0_39, .ref k0_40, .int 0, .ref k0_42, .int 0, .ref k0_44, .ref k0_45, .int 0, .int 0, .int 0, .int 0, .int 0, .int 0]))]) (hS : va_S (fun q : Nat => s.heap.size ≤ q) s.heap H locs) (hl : lv_has ls 4 [(3, .int 0), (2, .ref k0), (1, .ref h0), (0, .ref b)]) : W p l e room_1 s m #[Value.ref b] below meth c H locs 221 158368 (lw_Z below #[Value.ref b] s) (F0 m 807 ls []) := by
  have hK := hKK.1
  have hA : ∀ q : Nat, s.heap.size ≤ q → (fun q : Nat => s.heap.size ≤ q) q := fun _ h => h
  have hbA : ¬ (fun q : Nat => s.heap.size ≤ q) b := Nat.not_le.mpr hbl
  refine lv_aload_n hx hb dL_law_807 rfl (lv_at hl 2 rfl) ?_
  refine goV (As := []) (rest := []) (wr := [(k0, .inr (12, [.int 0, .int 0, .ref k0_2, .ref k0_3, .ref k0_4, .ref k0_5, .int 0, .int 0, .int 0, .ref k0_9, .ref k0_10, .ref k0_11, .int 0, .int 0, .int 0, .int 0, .long 0, .int (-1), .int 0, .int 0, .ref k0_20, .int 0, .ref k0_22, .ref k0_23, .int 0, .ref k0_25, .ref k0_26, .int 0, .int 0, .ref k0_29, .ref k0_30, .ref k0_31, .ref k0_32, .int 0, .long 0, .long 0, .long 0, .long 0, .int 0, .ref k0_39, .ref k0_40, .int 0, .ref k0_42, .int 0, .ref k0_44, .ref k0_45, .int 0, .int 0, .int 0, .int 0, .int 0, .int 0]))]) ⟨hx, hb, hml, hown, hts⟩ (c_X11_fault l G cI cJ cZ cD cR cT h0 h0_0 h0_1 h0_2 h0_3 h0_6 h0_7 h0_8 h0_10 h0_11 h0_13 h0_7_3 h0_7_4 h0_7_5 h0_7_6 h0_7_7 h0_7_9 h0_7_10 h0_7_12 h0_7_13 h0_7_14 _) (cwV 0 hts gv_law17_87_X11_fault rfl rfl rfl (by decide +kernel) ⟨Nat.le_of_ble_eq_true rfl, Nat.le_of_ble_eq_true rfl⟩) 0 rfl rfl rfl hKK hP hD hS hA [0, 1] [2] rfl rfl (by decide +kernel) (by decide +kernel) (by decide +kernel) rfl hl.1 rfl (lv_room (Nat.le_of_ble_eq_true rfl)) dL_law_808 ⟨Nat.le_of_ble_eq_true rfl, Nat.le_of_ble_eq_true rfl⟩ (fun v2 q1 gq1 H locs hv2 => appW (ws' := [(k0, .inr (12, [.int 0, .int 0, .ref k0_2, .ref k0_3, .ref k0_4, .ref k0_5, .int 0, .int 0, .int 0, .ref k0_9, .ref k0_10, .ref k0_11, .int 0, .int 0, .int 0, .int 0, .long 0, .int (-1), .int 0, .int 0, .ref k0_20, .int 0, .ref k0_22, .ref k0_23, .int 0, .ref k0_25, .ref k0_26, .int 0, .int 0, .ref k0_29, .ref k0_30, .ref k0_31, .ref k0_32, .int 0, .long 0, .long 0, .long 0, .long 0, .int 0, .ref k0_39, .ref k0_40, .int 0, .ref k0_42, .int 0, .ref k0_44, .ref k0_45, .int 0, .int 0, .int 0, .int 0, .int 0, .int 0]))]) rfl (fun hP hD hS => ?_))
  obtain ⟨r3, rfl, hr3⟩ := hv2
  refine lv_aload_n hx hb dL_law_811 rfl (lv_at hl 1 rfl) ?_
  refine goV (As := []) (rest := [.int r3]) (wr := []) ⟨hx, hb, hml, hown, hts⟩ (c_X12_fault l G cI cJ cZ cD cR cT k0 k0_2 k0_3 k0_4 k0_5 k0_9 k0_10 k0_11 k0_20 k0_22 k0_23 k0_25 k0_26 k0_29 k0_30 k0_31 k0_32 k0_39 k0_40 k0_42 k0_44 k0_45 _) (cwV 0 hts gv_law17_90_X12_fault rfl rfl rfl (by decide +kernel) ⟨Nat.le_of_ble_eq_true rfl, Nat.le_of_ble_eq_true rfl⟩) 0 rfl rfl rfl hKK hP hD hS hA [0] [] rfl rfl (by decide +kernel) (by decide +kernel) (by decide +kernel) rfl hl.1 rfl (lv_room (Nat.le_of_ble_eq_true rfl)) dL_law_812 ⟨Nat.le_of_ble_eq_true rfl, Nat.le_of_ble_eq_true rfl⟩ (fun v5 q4 gq4 H locs hv5 => appW (ws' := []) rfl (fun hP hD hS => ?_))
  obtain ⟨r6, rfl, hr6⟩ := hv5
  refine lv_icmp_eq (tgt := 1678) hx hb dL_law_815 (by decide) (fun _ => ?_) (fun c => absurd (hr3.trans hr6.symm) c)
  refine lv_iinc (v := 6) (lv' := [(3, .int 6), (2, .ref k0), (1, .ref h0), (0, .ref b)]) hx hb dL_law_1678 hl (k := 0) rfl (by decide) (by decide) rfl (fun ls hl => ?_)
  refine lv_goto (tgt := 18) hx hb dL_law_1681 (by decide) ?_
  refine lv_iload_n hx hb dL_law_18 rfl (lv_at hl 0 rfl) ?_
  refine lv_aload_n hx hb dL_law_19 rfl (lv_at hl 3 rfl) ?_
  refine va_slen hx hb hX hbl hbA hS dL_law_20 ?_
  refine lv_topi (fun x7 ex7 => ?_)
  obtain rfl : 6 = x7 := (ex7.trans rfl).symm
  refine lv_bipush (v := 6) hx hb dL_law_21 (by decide) ?_
  refine lv_isub hx hb dL_law_23 ?_
  refine lv_topi (fun x8 ex8 => ?_)
  obtain rfl : 0 = x8 := (ex8.trans (by decide)).symm
  refine lv_icmp_gt (tgt := 1684) hx hb dL_law_24 (by decide) (fun _ => ?_) (fun c => absurd c (by decide))
  refine lv_iconst (v := 1) hx hb dL_law_1684 (by decide) ?_
  refine va_forget (fun q h => hS.2.2 q h) ?_
  refine W.widen (k := 600000) (n := 7302250) (Nat.le_of_ble_eq_true rfl) (Nat.le_of_ble_eq_true rfl) ?_
  exact W.base (lw_ret (Drawn.sameBut.refl s.drawn lw_cs) hx hb hr hlocks dL_law_1685)
set_option maxRecDepth 20000 in
theorem gv_law18_91_X11_force : GoodIn lw_tbl (wsV RL 91 RX11 yX11_force v_X11_force) := goodIn_app (goodIn_r _ [1058, 1059, 1060, 103] (by decide +kernel) (by decide +kernel)) (gi tb_X11_force gd_X11_force)
set_option maxRecDepth 20000 in
theorem gv_law18_94_X12_force : GoodIn lw_tbl (wsV RL 94 RX12 yX12_force v_X12_force) := goodIn_app (goodIn_r _ [1905, 1906, 1907, 114] (by decide +kernel) (by decide +kernel)) (gi tb_X12_force gd_X12_force)
set_option maxHeartbeats 4000000 in
set_option maxRecDepth 100000 in
theorem law_case_18 {p : Program} {e : Env} {s : State} {m : MethodId} {below : List Frame} {meth : Method} {c : Code} (l : Launch) (G : va_G) (cI cJ cZ cD cR cT : ClassId) {b : Nat} {xs : Nat → Int32} (h0 k0 h0_0 h0_1 h0_2 h0_3 h0_6 h0_7 h0_8 h0_10 h0_11 h0_13 h0_0_0 h0_0_1 h0_0_2 h0_0_3 h0_0_4 h0_0_5 h0_0_8 h0_0_15 h0_0_16 h0_0_4_1 h0_0_4_2 h0_0_4_3 k0_2 k0_3 k0_4 k0_5 k0_9 k0_10 k0_11 k0_20 k0_22 k0_23 k0_25 k0_26 k0_29 k0_30 k0_31 k0_32 k0_39 k0_40 k0_42 k0_44 k0_45 : Nat) {H : Heap} {locs : List Loc} {ls : Array Slot} (hx : p.tables.exec = Jvm.exec) (hb : c.code = code) (hr : meth.sig.returnType = ret) (hml : c.maxLocals = 4) (hown : s.vm.findClass RL = some m.cls) (hts : ∀ w ∈ lw_tbl, w.before #[Value.ref b] s = true) (hX : va_X b 6 xs s s.heap) (hbl : b < s.heap.size) (hlocks : meth.locks = false) (hKK : KK G (tys6 cI cJ cZ cD cR cT) s) (hP : va_P G vwCl [(h0, .inr (11, [.ref h0_0, .ref h0_1, .ref h0_2, .ref h0_3, .int 0, .int 0, .ref h0_6, .ref h0_7, .ref h0_8, .int 0, .ref h0_10, .ref h0_11, .int 0, .ref h0_13, .int 0, .int 0])), (h0_0, .inr (0, [.ref h0_0_0, .ref h0_0_1, .ref h0_0_2, .ref h0_0_3, .ref h0_0_4, .ref h0_0_5, .int 0, .int 0, .ref h0_0_8, .int 0, .int 0, .int 0, .int 0, .long 0, .int 0, .ref h0_0_15, .ref h0_0_16])), (h0_0_4, .inr (2, [.int 0, .ref h0_0_4_1, .ref h0_0_4_2, .ref h0_0_4_3])), (k0, .inr (12, [.int 0, .int 0, .ref k0_2, .ref k0_3, .ref k0_4, .ref k0_5, .int 0, .int 0, .int 0, .ref k0_9, .ref k0_10, .ref k0_11, .int 0, .int 0, .int 0, .int 0, .long 0, .int (-1), .int 0, .int 0, .ref k0_20, .int 0, .ref k0_22, .ref k0_23, .int 0, .ref k0_25, .ref k0_26, .int 0, .int 0, .ref k0_29, .ref k0_30, .ref k0_31, .ref k0_32, .int 0, .long 0, .long 0, .long 0, .long 0, .int 0, .ref k0_39, .ref k0_40, .int 0, .ref k0_42, .int 0, .ref k0_44, .ref k0_45, .int 0, .int 0, .int 0, .int 0, .int 0, .int 0])), (k0_2, .inl (cI, 35942, .inl mrow))] H) (hD : va_D (fun q : Nat => s.heap.size ≤ q) [(h0, .inr (11, [.ref h0_0, .ref h0_1, .ref h0_2, .ref h0_3, .int 0, .int 0, .ref h0_6, .ref h0_7, .ref h0_8, .int 0, .ref h0_10, .ref h0_11, .int 0, .ref h0_13, .int 0, .int 0])), (h0_0, .inr (0, [.ref h0_0_0, .ref h0_0_1, .ref h0_0_2, .ref h0_0_3, .ref h0_0_4, .ref h0_0_5, .int 0, .int 0, .ref h0_0_8, .int 0, .int 0, .int 0, .int 0, .long 0, .int 0, .ref h0_0_15, .ref h0_0_16])), (h0_0_4, .inr (2, [.int 0, .ref h0_0_4_1, .ref h0_0_4_2, .ref h0_0_4_3])), (k0, .inr (12, [.int 0, .int 0, .ref k0_2, .ref k0_3, .ref k0_4, .ref k0_5, .int 0, .int 0, .int 0, .ref k0_9, .ref k0_10, .ref k0_11, .int 0, .int 0, .int 0, .int 0, .long 0, .int (-1), .int 0, .int 0, .ref k0_20, .int 0, .ref k0_22, .ref k0_23, .int 0, .ref k0_25, .ref k0_26, .int 0, .int 0, .ref k0_29, .ref k0_30, .ref k0_31, .ref k0_32, .int 0, .long 0, .long 0, .long 0, .long 0, .int 0, .ref k0_39, .ref k0_40, .int 0, .ref k0_42, .int 0, .ref k0_44, .ref k0_45, .int 0, .int 0, .int 0, .int 0, .int 0, .int 0])), (k0_2, .inl (cI, 35942, .inl mrow))]) (hS : va_S (fun q : Nat => s.heap.size ≤ q) s.heap H locs) (hl : lv_has ls 4 [(3, .int 0), (2, .ref k0), (1, .ref h0), (0, .ref b)]) : W p l e room_1 s m #[Value.ref b] below meth c H locs 221 158368 (lw_Z below #[Value.ref b] s) (F0 m 820 ls []) := by
  have hK := hKK.1
  have hA : ∀ q : Nat, s.heap.size ≤ q → (fun q : Nat => s.heap.size ≤ q) q := fun _ h => h
  have hbA : ¬ (fun q : Nat => s.heap.size ≤ q) b := Nat.not_le.mpr hbl
  refine lv_aload_n hx hb dL_law_820 rfl (lv_at hl 2 rfl) ?_
  refine lv_aload_n hx hb dL_law_821 rfl (lv_at hl 3 rfl) ?_
  refine lv_iload_n hx hb dL_law_822 rfl (lv_at hl 0 rfl) ?_
  refine lv_iconst (v := 1) hx hb dL_law_823 (by decide) ?_
  refine lv_iadd hx hb dL_law_824 ?_
  refine lv_topi (fun x1 ex1 => ?_)
  obtain rfl : 1 = x1 := (ex1.trans (by decide)).symm
  refine va_sld hx hb hX hbl hbA hS (vp_in_iff.mpr (by decide)) dL_law_825 ?_
  refine lv_topi (fun x2 ex2 => ?_)
  obtain rfl : xs 1 = x2 := (ex2.trans rfl).symm
  refine lv_aload_n hx hb dL_law_826 rfl (lv_at hl 3 rfl) ?_
  refine lv_iload_n hx hb dL_law_827 rfl (lv_at hl 0 rfl) ?_
  refine lv_iconst (v := 2) hx hb dL_law_828 (by decide) ?_
  refine lv_iadd hx hb dL_law_829 ?_
  refine lv_topi (fun x3 ex3 => ?_)
  obtain rfl : 2 = x3 := (ex3.trans (by decide)).symm
  refine va_sld hx hb hX hbl hbA hS (vp_in_iff.mpr (by decide)) dL_law_830 ?_
  refine lv_topi (fun x4 ex4 => ?_)
  obtain rfl : xs 2 = x4 := (ex4.trans rfl).symm
  refine lv_aload_n hx hb dL_law_831 rfl (lv_at hl 3 rfl) ?_
  refine lv_iload_n hx hb dL_law_832 rfl (lv_at hl 0 rfl) ?_
  refine lv_iconst (v := 3) hx hb dL_law_833 (by decide) ?_
  refine lv_iadd hx hb dL_law_834 ?_
  refine lv_topi (fun x5 ex5 => ?_)
  obtain rfl : 3 = x5 := (ex5.trans (by decide)).symm
  refine va_sld hx hb hX hbl hbA hS (vp_in_iff.mpr (by decide)) dL_law_835 ?_
  refine lv_topi (fun x6 ex6 => ?_)
  obtain rfl : xs 3 = x6 := (ex6.trans rfl).symm
  refine goV (As := [.int (xs 1), .int (xs 2), .int (xs 3)]) (rest := []) (wr := [(k0, .inr (12, [.int 0, .int 0, .ref k0_2, .ref k0_3, .ref k0_4, .ref k0_5, .int 0, .int 0, .int 0, .ref k0_9, .ref k0_10, .ref k0_11, .int 0, .int 0, .int 0, .int 0, .long 0, .int (-1), .int 0, .int 0, .ref k0_20, .int 0, .ref k0_22, .ref k0_23, .int 0, .ref k0_25, .ref k0_26, .int 0, .int 0, .ref k0_29, .ref k0_30, .ref k0_31, .ref k0_32, .int 0, .long 0, .long 0, .long 0, .long 0, .int 0, .ref k0_39, .ref k0_40, .int 0, .ref k0_42, .int 0, .ref k0_44, .ref k0_45, .int 0, .int 0, .int 0, .int 0, .int 0, .int 0])), (k0_2, .inl (cI, 35942, .inl mrow))]) ⟨hx, hb, hml, hown, hts⟩ (c_X11_force l G cI cJ cZ cD cR cT h0 (xs 1) (xs 2) (xs 3) h0_0 h0_1 h0_2 h0_3 h0_6 h0_7 h0_8 h0_10 h0_11 h0_13 h0_0_0 h0_0_1 h0_0_2 h0_0_3 h0_0_4 h0_0_5 h0_0_8 h0_0_15 h0_0_16 h0_0_4_1 h0_0_4_2 h0_0_4_3 _) (cwV 3 hts gv_law18_91_X11_force rfl rfl rfl (by decide +kernel) ⟨Nat.le_of_ble_eq_true rfl, Nat.le_of_ble_eq_true rfl⟩) 0 rfl rfl rfl hKK hP hD hS hA [0, 1, 2] [3, 4] rfl rfl (by decide +kernel) (by decide +kernel) (by decide +kernel) rfl hl.1 rfl (lv_room (Nat.le_of_ble_eq_true rfl)) dL_law_836 ⟨Nat.le_of_ble_eq_true rfl, Nat.le_of_ble_eq_true rfl⟩ (fun v8 q7 gq7 H locs hv8 => appW (ws' := [(k0, .inr (12, [.int 0, .int 0, .ref k0_2, .ref k0_3, .ref k0_4, .ref k0_5, .int 0, .int 0, .int 0, .ref k0_9, .ref k0_10, .ref k0_11, .int 0, .int 0, .int 0, .int 0, .long 0, .int (-1), .int 0, .int 0, .ref k0_20, .int 0, .ref k0_22, .ref k0_23, .int 0, .ref k0_25, .ref k0_26, .int 0, .int 0, .ref k0_29, .ref k0_30, .ref k0_31, .ref k0_32, .int 0, .long 0, .long 0, .long 0, .long 0, .int 0, .ref k0_39, .ref k0_40, .int 0, .ref k0_42, .int 0, .ref k0_44, .ref k0_45, .int 0, .int 0, .int 0, .int 0, .int 0, .int 0])), (k0_2, .inl (cI, 35942, .inl mrow))]) rfl (fun hP hD hS => ?_))
  obtain ⟨r9, rfl, hr9⟩ := hv8
  refine lv_aload_n hx hb dL_law_839 rfl (lv_at hl 1 rfl) ?_
  refine lv_aload_n hx hb dL_law_840 rfl (lv_at hl 3 rfl) ?_
  refine lv_iload_n hx hb dL_law_841 rfl (lv_at hl 0 rfl) ?_
  refine lv_iconst (v := 1) hx hb dL_law_842 (by decide) ?_
  refine lv_iadd hx hb dL_law_843 ?_
  refine lv_topi (fun x10 ex10 => ?_)
  obtain rfl : 1 = x10 := (ex10.trans (by decide)).symm
  refine va_sld hx hb hX hbl hbA hS (vp_in_iff.mpr (by decide)) dL_law_844 ?_
  refine lv_topi (fun x11 ex11 => ?_)
  obtain rfl : xs 1 = x11 := (ex11.trans rfl).symm
  refine lv_aload_n hx hb dL_law_845 rfl (lv_at hl 3 rfl) ?_
  refine lv_iload_n hx hb dL_law_846 rfl (lv_at hl 0 rfl) ?_
  refine lv_iconst (v := 2) hx hb dL_law_847 (by decide) ?_
  refine lv_iadd hx hb dL_law_848 ?_
  refine lv_topi (fun x12 ex12 => ?_)
  obtain rfl : 2 = x12 := (ex12.trans (by decide)).symm
  refine va_sld hx hb hX hbl hbA hS (vp_in_iff.mpr (by decide)) dL_law_849 ?_
  refine lv_topi (fun x13 ex13 => ?_)
  obtain rfl : xs 2 = x13 := (ex13.trans rfl).symm
  refine lv_aload_n hx hb dL_law_850 rfl (lv_at hl 3 rfl) ?_
  refine lv_iload_n hx hb dL_law_851 rfl (lv_at hl 0 rfl) ?_
  refine lv_iconst (v := 3) hx hb dL_law_852 (by decide) ?_
  refine lv_iadd hx hb dL_law_853 ?_
  refine lv_topi (fun x14 ex14 => ?_)
  obtain rfl : 3 = x14 := (ex14.trans (by decide)).symm
  refine va_sld hx hb hX hbl hbA hS (vp_in_iff.mpr (by decide)) dL_law_854 ?_
  refine lv_topi (fun x15 ex15 => ?_)
  obtain rfl : xs 3 = x15 := (ex15.trans rfl).symm
  refine goV (As := [.int (xs 1), .int (xs 2), .int (xs 3)]) (rest := [.int r9]) (wr := []) ⟨hx, hb, hml, hown, hts⟩ (c_X12_force l G cI cJ cZ cD cR cT k0 (xs 1) (xs 2) (xs 3) k0_2 k0_3 k0_4 k0_5 k0_9 k0_10 k0_11 k0_20 k0_22 k0_23 k0_25 k0_26 k0_29 k0_30 k0_31 k0_32 k0_39 k0_40 k0_42 k0_44 k0_45 _) (cwV 3 hts gv_law18_94_X12_force rfl rfl rfl (by decide +kernel) ⟨Nat.le_of_ble_eq_true rfl, Nat.le_of_ble_eq_true rfl⟩) 0 rfl rfl rfl hKK hP hD hS hA [0, 1] [] rfl rfl (by decide +kernel) (by decide +kernel) (by decide +kernel) rfl hl.1 rfl (lv_room (Nat.le_of_ble_eq_true rfl)) dL_law_855 ⟨Nat.le_of_ble_eq_true rfl, Nat.le_of_ble_eq_true rfl⟩ (fun v17 q16 gq16 H locs hv17 => appW (ws' := []) rfl (fun hP hD hS => ?_))
  obtain ⟨r18, rfl, hr18⟩ := hv17
  refine lv_icmp_eq (tgt := 1678) hx hb dL_law_858 (by decide) (fun _ => ?_) (fun c => absurd (hr9.trans hr18.symm) c)
  refine lv_iinc (v := 6) (lv' := [(3, .int 6), (2, .ref k0), (1, .ref h0), (0, .ref b)]) hx hb dL_law_1678 hl (k := 0) rfl (by decide) (by decide) rfl (fun ls hl => ?_)
  refine lv_goto (tgt := 18) hx hb dL_law_1681 (by decide) ?_
  refine lv_iload_n hx hb dL_law_18 rfl (lv_at hl 0 rfl) ?_
  refine lv_aload_n hx hb dL_law_19 rfl (lv_at hl 3 rfl) ?_
  refine va_slen hx hb hX hbl hbA hS dL_law_20 ?_
  refine lv_topi (fun x19 ex19 => ?_)
  obtain rfl : 6 = x19 := (ex19.trans rfl).symm
  refine lv_bipush (v := 6) hx hb dL_law_21 (by decide) ?_
  refine lv_isub hx hb dL_law_23 ?_
  refine lv_topi (fun x20 ex20 => ?_)
  obtain rfl : 0 = x20 := (ex20.trans (by decide)).symm
  refine lv_icmp_gt (tgt := 1684) hx hb dL_law_24 (by decide) (fun _ => ?_) (fun c => absurd c (by decide))
  refine lv_iconst (v := 1) hx hb dL_law_1684 (by decide) ?_
  refine va_forget (fun q h => hS.2.2 q h) ?_
  refine W.widen (k := 600000) (n := 7302250) (Nat.le_of_ble_eq_true rfl) (Nat.le_of_ble_eq_true rfl) ?_
  exact W.base (lw_ret (Drawn.sameBut.refl s.drawn lw_cs) hx hb hr hlocks dL_law_1685)
set_option maxRecDepth 20000 in
theorem gv_law19_95_X11_holds : GoodIn lw_tbl (wsV RL 95 RX11 yX11_holds v_X11_holds) := goodIn_app (goodIn_r _ [1068, 1069, 1070, 103] (by decide +kernel) (by decide +kernel)) (gi tb_X11_holds gd_X11_holds)
set_option maxRecDepth 20000 in
theorem gv_law19_98_X12_holds : GoodIn lw_tbl (wsV RL 98 RX12 yX12_holds v_X12_holds) := goodIn_app (goodIn_r _ [1909, 1910, 1911, 114] (by decide +kernel) (by decide +kernel)) (gi tb_X12_holds gd_X12_holds)
set_option maxHeartbeats 4000000 in
set_option maxRecDepth 100000 in
theorem law_case_19 {p : Program} {e : Env} {s : State} {m : MethodId} {below : List Frame} {meth : Method} {c : Code} (l : Launch) (G : va_G) (cI cJ cZ cD cR cT : ClassId) {b : Nat} {xs : Nat → Int32} (h0 k0 h0_0 h0_1 h0_2 h0_3 h0_6 h0_7 h0_8 h0_10 h0_11 h0_13 h0_0_0 h0_0_1 h0_0_2 h0_0_3 h0_0_4 h0_0_5 h0_0_8 h0_0_15 h0_0_16 h0_0_4_1 h0_0_4_2 h0_0_4_3 k0_2 k0_3 k0_4 k0_5 k0_9 k0_10 k0_11 k0_20 k0_22 k0_23 k0_25 k0_26 k0_29 k0_30 k0_31 k0_32 k0_39 k0_40 k0_42 k0_44 k0_45 : Nat) {H : Heap} {locs : List Loc} {ls : Array Slot} (hx : p.tables.exec = Jvm.exec) (hb : c.code = code) (hr : meth.sig.returnType = ret) (hml : c.maxLocals = 4) (hown : s.vm.findClass RL = some m.cls) (hts : ∀ w ∈ lw_tbl, w.before #[Value.ref b] s = true) (hX : va_X b 6 xs s s.heap) (hbl : b < s.heap.size) (hlocks : meth.locks = false) (hKK : KK G (tys6 cI cJ cZ cD cR cT) s) (hP : va_P G vwCl [(h0, .inr (11, [.ref h0_0, .ref h0_1, .ref h0_2, .ref h0_3, .int 0, .int 0, .ref h0_6, .ref h0_7, .ref h0_8, .int 0, .ref h0_10, .ref h0_11, .int 0, .ref h0_13, .int 0, .int 0])), (h0_0, .inr (0, [.ref h0_0_0, .ref h0_0_1, .ref h0_0_2, .ref h0_0_3, .ref h0_0_4, .ref h0_0_5, .int 0, .int 0, .ref h0_0_8, .int 0, .int 0, .int 0, .int 0, .long 0, .int 0, .ref h0_0_15, .ref h0_0_16])), (h0_0_4, .inr (2, [.int 0, .ref h0_0_4_1, .ref h0_0_4_2, .ref h0_0_4_3])), (k0, .inr (12, [.int 0, .int 0, .ref k0_2, .ref k0_3, .ref k0_4, .ref k0_5, .int 0, .int 0, .int 0, .ref k0_9, .ref k0_10, .ref k0_11, .int 0, .int 0, .int 0, .int 0, .long 0, .int (-1), .int 0, .int 0, .ref k0_20, .int 0, .ref k0_22, .ref k0_23, .int 0, .ref k0_25, .ref k0_26, .int 0, .int 0, .ref k0_29, .ref k0_30, .ref k0_31, .ref k0_32, .int 0, .long 0, .long 0, .long 0, .long 0, .int 0, .ref k0_39, .ref k0_40, .int 0, .ref k0_42, .int 0, .ref k0_44, .ref k0_45, .int 0, .int 0, .int 0, .int 0, .int 0, .int 0])), (k0_2, .inl (cI, 35942, .inl mrow))] H) (hD : va_D (fun q : Nat => s.heap.size ≤ q) [(h0, .inr (11, [.ref h0_0, .ref h0_1, .ref h0_2, .ref h0_3, .int 0, .int 0, .ref h0_6, .ref h0_7, .ref h0_8, .int 0, .ref h0_10, .ref h0_11, .int 0, .ref h0_13, .int 0, .int 0])), (h0_0, .inr (0, [.ref h0_0_0, .ref h0_0_1, .ref h0_0_2, .ref h0_0_3, .ref h0_0_4, .ref h0_0_5, .int 0, .int 0, .ref h0_0_8, .int 0, .int 0, .int 0, .int 0, .long 0, .int 0, .ref h0_0_15, .ref h0_0_16])), (h0_0_4, .inr (2, [.int 0, .ref h0_0_4_1, .ref h0_0_4_2, .ref h0_0_4_3])), (k0, .inr (12, [.int 0, .int 0, .ref k0_2, .ref k0_3, .ref k0_4, .ref k0_5, .int 0, .int 0, .int 0, .ref k0_9, .ref k0_10, .ref k0_11, .int 0, .int 0, .int 0, .int 0, .long 0, .int (-1), .int 0, .int 0, .ref k0_20, .int 0, .ref k0_22, .ref k0_23, .int 0, .ref k0_25, .ref k0_26, .int 0, .int 0, .ref k0_29, .ref k0_30, .ref k0_31, .ref k0_32, .int 0, .long 0, .long 0, .long 0, .long 0, .int 0, .ref k0_39, .ref k0_40, .int 0, .ref k0_42, .int 0, .ref k0_44, .ref k0_45, .int 0, .int 0, .int 0, .int 0, .int 0, .int 0])), (k0_2, .inl (cI, 35942, .inl mrow))]) (hS : va_S (fun q : Nat => s.heap.size ≤ q) s.heap H locs) (hl : lv_has ls 4 [(3, .int 0), (2, .ref k0), (1, .ref h0), (0, .ref b)]) : W p l e room_1 s m #[Value.ref b] below meth c H locs 221 158368 (lw_Z below #[Value.ref b] s) (F0 m 863 ls []) := by
  have hK := hKK.1
  have hA : ∀ q : Nat, s.heap.size ≤ q → (fun q : Nat => s.heap.size ≤ q) q := fun _ h => h
  have hbA : ¬ (fun q : Nat => s.heap.size ≤ q) b := Nat.not_le.mpr hbl
  refine lv_aload_n hx hb dL_law_863 rfl (lv_at hl 2 rfl) ?_
  refine lv_aload_n hx hb dL_law_864 rfl (lv_at hl 3 rfl) ?_
  refine lv_iload_n hx hb dL_law_865 rfl (lv_at hl 0 rfl) ?_
  refine lv_iconst (v := 1) hx hb dL_law_866 (by decide) ?_
  refine lv_iadd hx hb dL_law_867 ?_
  refine lv_topi (fun x1 ex1 => ?_)
  obtain rfl : 1 = x1 := (ex1.trans (by decide)).symm
  refine va_sld hx hb hX hbl hbA hS (vp_in_iff.mpr (by decide)) dL_law_868 ?_
  refine lv_topi (fun x2 ex2 => ?_)
  obtain rfl : xs 1 = x2 := (ex2.trans rfl).symm
  refine lv_aload_n hx hb dL_law_869 rfl (lv_at hl 3 rfl) ?_
  refine lv_iload_n hx hb dL_law_870 rfl (lv_at hl 0 rfl) ?_
  refine lv_iconst (v := 2) hx hb dL_law_871 (by decide) ?_
  refine lv_iadd hx hb dL_law_872 ?_
  refine lv_topi (fun x3 ex3 => ?_)
  obtain rfl : 2 = x3 := (ex3.trans (by decide)).symm
  refine va_sld hx hb hX hbl hbA hS (vp_in_iff.mpr (by decide)) dL_law_873 ?_
  refine lv_topi (fun x4 ex4 => ?_)
  obtain rfl : xs 2 = x4 := (ex4.trans rfl).symm
  refine lv_aload_n hx hb dL_law_874 rfl (lv_at hl 3 rfl) ?_
  refine lv_iload_n hx hb dL_law_875 rfl (lv_at hl 0 rfl) ?_
  refine lv_iconst (v := 3) hx hb dL_law_876 (by decide) ?_
  refine lv_iadd hx hb dL_law_877 ?_
  refine lv_topi (fun x5 ex5 => ?_)
  obtain rfl : 3 = x5 := (ex5.trans (by decide)).symm
  refine va_sld hx hb hX hbl hbA hS (vp_in_iff.mpr (by decide)) dL_law_878 ?_
  refine lv_topi (fun x6 ex6 => ?_)
  obtain rfl : xs 3 = x6 := (ex6.trans rfl).symm
  refine lv_aload_n hx hb dL_law_879 rfl (lv_at hl 3 rfl) ?_
  refine lv_iload_n hx hb dL_law_880 rfl (lv_at hl 0 rfl) ?_
  refine lv_iconst (v := 4) hx hb dL_law_881 (by decide) ?_
  refine lv_iadd hx hb dL_law_882 ?_
  refine lv_topi (fun x7 ex7 => ?_)
  obtain rfl : 4 = x7 := (ex7.trans (by decide)).symm
  refine va_sld hx hb hX hbl hbA hS (vp_in_iff.mpr (by decide)) dL_law_883 ?_
  refine lv_topi (fun x8 ex8 => ?_)
  obtain rfl : xs 4 = x8 := (ex8.trans rfl).symm
  refine goV (As := [.int (xs 1), .int (xs 2), .int (xs 3), .int (xs 4)]) (rest := []) (wr := [(k0, .inr (12, [.int 0, .int 0, .ref k0_2, .ref k0_3, .ref k0_4, .ref k0_5, .int 0, .int 0, .int 0, .ref k0_9, .ref k0_10, .ref k0_11, .int 0, .int 0, .int 0, .int 0, .long 0, .int (-1), .int 0, .int 0, .ref k0_20, .int 0, .ref k0_22, .ref k0_23, .int 0, .ref k0_25, .ref k0_26, .int 0, .int 0, .ref k0_29, .ref k0_30, .ref k0_31, .ref k0_32, .int 0, .long 0, .long 0, .long 0, .long 0, .int 0, .ref k0_39, .ref k0_40, .int 0, .ref k0_42, .int 0, .ref k0_44, .ref k0_45, .int 0, .int 0, .int 0, .int 0, .int 0, .int 0])), (k0_2, .inl (cI, 35942, .inl mrow))]) ⟨hx, hb, hml, hown, hts⟩ (c_X11_holds l G cI cJ cZ cD cR cT h0 (xs 1) (xs 2) (xs 3) (xs 4) h0_0 h0_1 h0_2 h0_3 h0_6 h0_7 h0_8 h0_10 h0_11 h0_13 h0_0_0 h0_0_1 h0_0_2 h0_0_3 h0_0_4 h0_0_5 h0_0_8 h0_0_15 h0_0_16 h0_0_4_1 h0_0_4_2 h0_0_4_3 _) (cwV 4 hts gv_law19_95_X11_holds rfl rfl rfl (by decide +kernel) ⟨Nat.le_of_ble_eq_true rfl, Nat.le_of_ble_eq_true rfl⟩) 0 rfl rfl rfl hKK hP hD hS hA [0, 1, 2] [3, 4] rfl rfl (by decide +kernel) (by decide +kernel) (by decide +kernel) rfl hl.1 rfl (lv_room (Nat.le_of_ble_eq_true rfl)) dL_law_884 ⟨Nat.le_of_ble_eq_true rfl, Nat.le_of_ble_eq_true rfl⟩ (fun v10 q9 gq9 H locs hv10 => appW (ws' := [(k0, .inr (12, [.int 0, .int 0, .ref k0_2, .ref k0_3, .ref k0_4, .ref k0_5, .int 0, .int 0, .int 0, .ref k0_9, .ref k0_10, .ref k0_11, .int 0, .int 0, .int 0, .int 0, .long 0, .int (-1), .int 0, .int 0, .ref k0_20, .int 0, .ref k0_22, .ref k0_23, .int 0, .ref k0_25, .ref k0_26, .int 0, .int 0, .ref k0_29, .ref k0_30, .ref k0_31, .ref k0_32, .int 0, .long 0, .long 0, .long 0, .long 0, .int 0, .ref k0_39, .ref k0_40, .int 0, .ref k0_42, .int 0, .ref k0_44, .ref k0_45, .int 0, .int 0, .int 0, .int 0, .int 0, .int 0])), (k0_2, .inl (cI, 35942, .inl mrow))]) rfl (fun hP hD hS => ?_))
  obtain ⟨r11, rfl, hr11⟩ := hv10
  refine lv_aload_n hx hb dL_law_887 rfl (lv_at hl 1 rfl) ?_
  refine lv_aload_n hx hb dL_law_888 rfl (lv_at hl 3 rfl) ?_
  refine lv_iload_n hx hb dL_law_889 rfl (lv_at hl 0 rfl) ?_
  refine lv_iconst (v := 1) hx hb dL_law_890 (by decide) ?_
  refine lv_iadd hx hb dL_law_891 ?_
  refine lv_topi (fun x12 ex12 => ?_)
  obtain rfl : 1 = x12 := (ex12.trans (by decide)).symm
  refine va_sld hx hb hX hbl hbA hS (vp_in_iff.mpr (by decide)) dL_law_892 ?_
  refine lv_topi (fun x13 ex13 => ?_)
  obtain rfl : xs 1 = x13 := (ex13.trans rfl).symm
  refine lv_aload_n hx hb dL_law_893 rfl (lv_at hl 3 rfl) ?_
  refine lv_iload_n hx hb dL_law_894 rfl (lv_at hl 0 rfl) ?_
  refine lv_iconst (v := 2) hx hb dL_law_895 (by decide) ?_
  refine lv_iadd hx hb dL_law_896 ?_
  refine lv_topi (fun x14 ex14 => ?_)
  obtain rfl : 2 = x14 := (ex14.trans (by decide)).symm
  refine va_sld hx hb hX hbl hbA hS (vp_in_iff.mpr (by decide)) dL_law_897 ?_
  refine lv_topi (fun x15 ex15 => ?_)
  obtain rfl : xs 2 = x15 := (ex15.trans rfl).symm
  refine lv_aload_n hx hb dL_law_898 rfl (lv_at hl 3 rfl) ?_
  refine lv_iload_n hx hb dL_law_899 rfl (lv_at hl 0 rfl) ?_
  refine lv_iconst (v := 3) hx hb dL_law_900 (by decide) ?_
  refine lv_iadd hx hb dL_law_901 ?_
  refine lv_topi (fun x16 ex16 => ?_)
  obtain rfl : 3 = x16 := (ex16.trans (by decide)).symm
  refine va_sld hx hb hX hbl hbA hS (vp_in_iff.mpr (by decide)) dL_law_902 ?_
  refine lv_topi (fun x17 ex17 => ?_)
  obtain rfl : xs 3 = x17 := (ex17.trans rfl).symm
  refine lv_aload_n hx hb dL_law_903 rfl (lv_at hl 3 rfl) ?_
  refine lv_iload_n hx hb dL_law_904 rfl (lv_at hl 0 rfl) ?_
  refine lv_iconst (v := 4) hx hb dL_law_905 (by decide) ?_
  refine lv_iadd hx hb dL_law_906 ?_
  refine lv_topi (fun x18 ex18 => ?_)
  obtain rfl : 4 = x18 := (ex18.trans (by decide)).symm
  refine va_sld hx hb hX hbl hbA hS (vp_in_iff.mpr (by decide)) dL_law_907 ?_
  refine lv_topi (fun x19 ex19 => ?_)
  obtain rfl : xs 4 = x19 := (ex19.trans rfl).symm
  refine goV (As := [.int (xs 1), .int (xs 2), .int (xs 3), .int (xs 4)]) (rest := [.int r11]) (wr := []) ⟨hx, hb, hml, hown, hts⟩ (c_X12_holds l G cI cJ cZ cD cR cT k0 (xs 1) (xs 2) (xs 3) (xs 4) k0_2 k0_3 k0_4 k0_5 k0_9 k0_10 k0_11 k0_20 k0_22 k0_23 k0_25 k0_26 k0_29 k0_30 k0_31 k0_32 k0_39 k0_40 k0_42 k0_44 k0_45 _) (cwV 4 hts gv_law19_98_X12_holds rfl rfl rfl (by decide +kernel) ⟨Nat.le_of_ble_eq_true rfl, Nat.le_of_ble_eq_true rfl⟩) 0 rfl rfl rfl hKK hP hD hS hA [0, 1] [] rfl rfl (by decide +kernel) (by decide +kernel) (by decide +kernel) rfl hl.1 rfl (lv_room (Nat.le_of_ble_eq_true rfl)) dL_law_908 ⟨Nat.le_of_ble_eq_true rfl, Nat.le_of_ble_eq_true rfl⟩ (fun v21 q20 gq20 H locs hv21 => appW (ws' := []) rfl (fun hP hD hS => ?_))
  obtain ⟨r22, rfl, hr22⟩ := hv21
  refine lv_icmp_eq (tgt := 1678) hx hb dL_law_911 (by decide) (fun _ => ?_) (fun c => absurd (hr11.trans hr22.symm) c)
  refine lv_iinc (v := 6) (lv' := [(3, .int 6), (2, .ref k0), (1, .ref h0), (0, .ref b)]) hx hb dL_law_1678 hl (k := 0) rfl (by decide) (by decide) rfl (fun ls hl => ?_)
  refine lv_goto (tgt := 18) hx hb dL_law_1681 (by decide) ?_
  refine lv_iload_n hx hb dL_law_18 rfl (lv_at hl 0 rfl) ?_
  refine lv_aload_n hx hb dL_law_19 rfl (lv_at hl 3 rfl) ?_
  refine va_slen hx hb hX hbl hbA hS dL_law_20 ?_
  refine lv_topi (fun x23 ex23 => ?_)
  obtain rfl : 6 = x23 := (ex23.trans rfl).symm
  refine lv_bipush (v := 6) hx hb dL_law_21 (by decide) ?_
  refine lv_isub hx hb dL_law_23 ?_
  refine lv_topi (fun x24 ex24 => ?_)
  obtain rfl : 0 = x24 := (ex24.trans (by decide)).symm
  refine lv_icmp_gt (tgt := 1684) hx hb dL_law_24 (by decide) (fun _ => ?_) (fun c => absurd c (by decide))
  refine lv_iconst (v := 1) hx hb dL_law_1684 (by decide) ?_
  refine va_forget (fun q h => hS.2.2 q h) ?_
  refine W.widen (k := 600000) (n := 7302250) (Nat.le_of_ble_eq_true rfl) (Nat.le_of_ble_eq_true rfl) ?_
  exact W.base (lw_ret (Drawn.sameBut.refl s.drawn lw_cs) hx hb hr hlocks dL_law_1685)
set_option maxRecDepth 20000 in
theorem gv_law20_99_X11_writ : GoodIn lw_tbl (wsV RL 99 RX11 yX11_writ v_X11_writ) := goodIn_app (goodIn_r _ [1076, 1077, 1078, 103] (by decide +kernel) (by decide +kernel)) (gi tb_X11_writ gd_X11_writ)
set_option maxRecDepth 20000 in
theorem gv_law20_102_X12_writ : GoodIn lw_tbl (wsV RL 102 RX12 yX12_writ v_X12_writ) := goodIn_app (goodIn_r _ [1950, 1951, 1952, 114] (by decide +kernel) (by decide +kernel)) (gi tb_X12_writ gd_X12_writ)
set_option maxHeartbeats 4000000 in
set_option maxRecDepth 100000 in
theorem law_case_20 {p : Program} {e : Env} {s : State} {m : MethodId} {below : List Frame} {meth : Method} {c : Code} (l : Launch) (G : va_G) (cI cJ cZ cD cR cT : ClassId) {b : Nat} {xs : Nat → Int32} (h0 k0 h0_0 h0_1 h0_2 h0_3 h0_6 h0_7 h0_8 h0_10 h0_11 h0_13 h0_0_0 h0_0_1 h0_0_2 h0_0_3 h0_0_4 h0_0_5 h0_0_8 h0_0_15 h0_0_16 h0_0_1_1 h0_0_1_2 h0_0_1_3 h0_0_1_4 h0_0_1_5 h0_0_1_6 h0_0_1_7 h0_0_1_9 h0_0_1_10 h0_0_1_11 k0_2 k0_3 k0_4 k0_5 k0_9 k0_10 k0_11 k0_20 k0_22 k0_23 k0_25 k0_26 k0_29 k0_30 k0_31 k0_32 k0_39 k0_40 k0_42 k0_44 k0_45 : Nat) {H : Heap} {locs : List Loc} {ls : Array Slot} (hx : p.tables.exec = Jvm.exec) (hb : c.code = code) (hr : meth.sig.returnType = ret) (hml : c.maxLocals = 4) (hown : s.vm.findClass RL = some m.cls) (hts : ∀ w ∈ lw_tbl, w.before #[Value.ref b] s = true) (hX : va_X b 6 xs s s.heap) (hbl : b < s.heap.size) (hlocks : meth.locks = false) (hKK : KK G (tys6 cI cJ cZ cD cR cT) s) (hP : va_P G vwCl [(h0, .inr (11, [.ref h0_0, .ref h0_1, .ref h0_2, .ref h0_3, .int 0, .int 0, .ref h0_6, .ref h0_7, .ref h0_8, .int 0, .ref h0_10, .ref h0_11, .int 0, .ref h0_13, .int 0, .int 0])), (h0_0, .inr (0, [.ref h0_0_0, .ref h0_0_1, .ref h0_0_2, .ref h0_0_3, .ref h0_0_4, .ref h0_0_5, .int 0, .int 0, .ref h0_0_8, .int 0, .int 0, .int 0, .int 0, .long 0, .int 0, .ref h0_0_15, .ref h0_0_16])), (h0_0_1, .inr (1, [.int 0, .ref h0_0_1_1, .ref h0_0_1_2, .ref h0_0_1_3, .ref h0_0_1_4, .ref h0_0_1_5, .ref h0_0_1_6, .ref h0_0_1_7, .int 0, .ref h0_0_1_9, .ref h0_0_1_10, .ref h0_0_1_11, .int (-1), .long 0, .long 0])), (k0, .inr (12, [.int 0, .int 0, .ref k0_2, .ref k0_3, .ref k0_4, .ref k0_5, .int 0, .int 0, .int 0, .ref k0_9, .ref k0_10, .ref k0_11, .int 0, .int 0, .int 0, .int 0, .long 0, .int (-1), .int 0, .int 0, .ref k0_20, .int 0, .ref k0_22, .ref k0_23, .int 0, .ref k0_25, .ref k0_26, .int 0, .int 0, .ref k0_29, .ref k0_30, .ref k0_31, .ref k0_32, .int 0, .long 0, .long 0, .long 0, .long 0, .int 0, .ref k0_39, .ref k0_40, .int 0, .ref k0_42, .int 0, .ref k0_44, .ref k0_45, .int 0, .int 0, .int 0, .int 0, .int 0, .int 0])), (k0_2, .inl (cI, 35942, .inl mrow))] H) (hD : va_D (fun q : Nat => s.heap.size ≤ q) [(h0, .inr (11, [.ref h0_0, .ref h0_1, .ref h0_2, .ref h0_3, .int 0, .int 0, .ref h0_6, .ref h0_7, .ref h0_8, .int 0, .ref h0_10, .ref h0_11, .int 0, .ref h0_13, .int 0, .int 0])), (h0_0, .inr (0, [.ref h0_0_0, .ref h0_0_1, .ref h0_0_2, .ref h0_0_3, .ref h0_0_4, .ref h0_0_5, .int 0, .int 0, .ref h0_0_8, .int 0, .int 0, .int 0, .int 0, .long 0, .int 0, .ref h0_0_15, .ref h0_0_16])), (h0_0_1, .inr (1, [.int 0, .ref h0_0_1_1, .ref h0_0_1_2, .ref h0_0_1_3, .ref h0_0_1_4, .ref h0_0_1_5, .ref h0_0_1_6, .ref h0_0_1_7, .int 0, .ref h0_0_1_9, .ref h0_0_1_10, .ref h0_0_1_11, .int (-1), .long 0, .long 0])), (k0, .inr (12, [.int 0, .int 0, .ref k0_2, .ref k0_3, .ref k0_4, .ref k0_5, .int 0, .int 0, .int 0, .ref k0_9, .ref k0_10, .ref k0_11, .int 0, .int 0, .int 0, .int 0, .long 0, .int (-1), .int 0, .int 0, .ref k0_20, .int 0, .ref k0_22, .ref k0_23, .int 0, .ref k0_25, .ref k0_26, .int 0, .int 0, .ref k0_29, .ref k0_30, .ref k0_31, .ref k0_32, .int 0, .long 0, .long 0, .long 0, .long 0, .int 0, .ref k0_39, .ref k0_40, .int 0, .ref k0_42, .int 0, .ref k0_44, .ref k0_45, .int 0, .int 0, .int 0, .int 0, .int 0, .int 0])), (k0_2, .inl (cI, 35942, .inl mrow))]) (hS : va_S (fun q : Nat => s.heap.size ≤ q) s.heap H locs) (hl : lv_has ls 4 [(3, .int 0), (2, .ref k0), (1, .ref h0), (0, .ref b)]) : W p l e room_1 s m #[Value.ref b] below meth c H locs 221 158368 (lw_Z below #[Value.ref b] s) (F0 m 916 ls []) := by
  have hK := hKK.1
  have hA : ∀ q : Nat, s.heap.size ≤ q → (fun q : Nat => s.heap.size ≤ q) q := fun _ h => h
  have hbA : ¬ (fun q : Nat => s.heap.size ≤ q) b := Nat.not_le.mpr hbl
  refine lv_aload_n hx hb dL_law_916 rfl (lv_at hl 2 rfl) ?_
  refine lv_aload_n hx hb dL_law_917 rfl (lv_at hl 3 rfl) ?_
  refine lv_iload_n hx hb dL_law_918 rfl (lv_at hl 0 rfl) ?_
  refine lv_iconst (v := 1) hx hb dL_law_919 (by decide) ?_
  refine lv_iadd hx hb dL_law_920 ?_
  refine lv_topi (fun x1 ex1 => ?_)
  obtain rfl : 1 = x1 := (ex1.trans (by decide)).symm
  refine va_sld hx hb hX hbl hbA hS (vp_in_iff.mpr (by decide)) dL_law_921 ?_
  refine lv_topi (fun x2 ex2 => ?_)
  obtain rfl : xs 1 = x2 := (ex2.trans rfl).symm
  refine goV (As := [.int (xs 1)]) (rest := []) (wr := [(k0, .inr (12, [.int 0, .int 0, .ref k0_2, .ref k0_3, .ref k0_4, .ref k0_5, .int 0, .int 0, .int 0, .ref k0_9, .ref k0_10, .ref k0_11, .int 0, .int 0, .int 0, .int 0, .long 0, .int (-1), .int 0, .int 0, .ref k0_20, .int 0, .ref k0_22, .ref k0_23, .int 0, .ref k0_25, .ref k0_26, .int 0, .int 0, .ref k0_29, .ref k0_30, .ref k0_31, .ref k0_32, .int 0, .long 0, .long 0, .long 0, .long 0, .int 0, .ref k0_39, .ref k0_40, .int 0, .ref k0_42, .int 0, .ref k0_44, .ref k0_45, .int 0, .int 0, .int 0, .int 0, .int 0, .int 0])), (k0_2, .inl (cI, 35942, .inl mrow))]) ⟨hx, hb, hml, hown, hts⟩ (c_X11_writ l G cI cJ cZ cD cR cT h0 (xs 1) h0_0 h0_1 h0_2 h0_3 h0_6 h0_7 h0_8 h0_10 h0_11 h0_13 h0_0_0 h0_0_1 h0_0_2 h0_0_3 h0_0_4 h0_0_5 h0_0_8 h0_0_15 h0_0_16 h0_0_1_1 h0_0_1_2 h0_0_1_3 h0_0_1_4 h0_0_1_5 h0_0_1_6 h0_0_1_7 h0_0_1_9 h0_0_1_10 h0_0_1_11 _) (cwV 1 hts gv_law20_99_X11_writ rfl rfl rfl (by decide +kernel) ⟨Nat.le_of_ble_eq_true rfl, Nat.le_of_ble_eq_true rfl⟩) 0 rfl rfl rfl hKK hP hD hS hA [0, 1, 2] [3, 4] rfl rfl (by decide +kernel) (by decide +kernel) (by decide +kernel) rfl hl.1 rfl (lv_room (Nat.le_of_ble_eq_true rfl)) dL_law_922 ⟨Nat.le_of_ble_eq_true rfl, Nat.le_of_ble_eq_true rfl⟩ (fun v4 q3 gq3 H locs hv4 => appW (ws' := [(k0, .inr (12, [.int 0, .int 0, .ref k0_2, .ref k0_3, .ref k0_4, .ref k0_5, .int 0, .int 0, .int 0, .ref k0_9, .ref k0_10, .ref k0_11, .int 0, .int 0, .int 0, .int 0, .long 0, .int (-1), .int 0, .int 0, .ref k0_20, .int 0, .ref k0_22, .ref k0_23, .int 0, .ref k0_25, .ref k0_26, .int 0, .int 0, .ref k0_29, .ref k0_30, .ref k0_31, .ref k0_32, .int 0, .long 0, .long 0, .long 0, .long 0, .int 0, .ref k0_39, .ref k0_40, .int 0, .ref k0_42, .int 0, .ref k0_44, .ref k0_45, .int 0, .int 0, .int 0, .int 0, .int 0, .int 0])), (k0_2, .inl (cI, 35942, .inl mrow))]) rfl (fun hP hD hS => ?_))
  obtain ⟨r5, rfl, hr5⟩ := hv4
  refine lv_aload_n hx hb dL_law_925 rfl (lv_at hl 1 rfl) ?_
  refine lv_aload_n hx hb dL_law_926 rfl (lv_at hl 3 rfl) ?_
  refine lv_iload_n hx hb dL_law_927 rfl (lv_at hl 0 rfl) ?_
  refine lv_iconst (v := 1) hx hb dL_law_928 (by decide) ?_
  refine lv_iadd hx hb dL_law_929 ?_
  refine lv_topi (fun x6 ex6 => ?_)
  obtain rfl : 1 = x6 := (ex6.trans (by decide)).symm
  refine va_sld hx hb hX hbl hbA hS (vp_in_iff.mpr (by decide)) dL_law_930 ?_
  refine lv_topi (fun x7 ex7 => ?_)
  obtain rfl : xs 1 = x7 := (ex7.trans rfl).symm
  refine goV (As := [.int (xs 1)]) (rest := [.int r5]) (wr := []) ⟨hx, hb, hml, hown, hts⟩ (c_X12_writ l G cI cJ cZ cD cR cT k0 (xs 1) k0_2 k0_3 k0_4 k0_5 k0_9 k0_10 k0_11 k0_20 k0_22 k0_23 k0_25 k0_26 k0_29 k0_30 k0_31 k0_32 k0_39 k0_40 k0_42 k0_44 k0_45 _) (cwV 1 hts gv_law20_102_X12_writ rfl rfl rfl (by decide +kernel) ⟨Nat.le_of_ble_eq_true rfl, Nat.le_of_ble_eq_true rfl⟩) 0 rfl rfl rfl hKK hP hD hS hA [0, 1] [] rfl rfl (by decide +kernel) (by decide +kernel) (by decide +kernel) rfl hl.1 rfl (lv_room (Nat.le_of_ble_eq_true rfl)) dL_law_931 ⟨Nat.le_of_ble_eq_true rfl, Nat.le_of_ble_eq_true rfl⟩ (fun v9 q8 gq8 H locs hv9 => appW (ws' := []) rfl (fun hP hD hS => ?_))
  obtain ⟨r10, rfl, hr10⟩ := hv9
  refine lv_icmp_eq (tgt := 1678) hx hb dL_law_934 (by decide) (fun _ => ?_) (fun c => absurd (hr5.trans hr10.symm) c)
  refine lv_iinc (v := 6) (lv' := [(3, .int 6), (2, .ref k0), (1, .ref h0), (0, .ref b)]) hx hb dL_law_1678 hl (k := 0) rfl (by decide) (by decide) rfl (fun ls hl => ?_)
  refine lv_goto (tgt := 18) hx hb dL_law_1681 (by decide) ?_
  refine lv_iload_n hx hb dL_law_18 rfl (lv_at hl 0 rfl) ?_
  refine lv_aload_n hx hb dL_law_19 rfl (lv_at hl 3 rfl) ?_
  refine va_slen hx hb hX hbl hbA hS dL_law_20 ?_
  refine lv_topi (fun x11 ex11 => ?_)
  obtain rfl : 6 = x11 := (ex11.trans rfl).symm
  refine lv_bipush (v := 6) hx hb dL_law_21 (by decide) ?_
  refine lv_isub hx hb dL_law_23 ?_
  refine lv_topi (fun x12 ex12 => ?_)
  obtain rfl : 0 = x12 := (ex12.trans (by decide)).symm
  refine lv_icmp_gt (tgt := 1684) hx hb dL_law_24 (by decide) (fun _ => ?_) (fun c => absurd c (by decide))
  refine lv_iconst (v := 1) hx hb dL_law_1684 (by decide) ?_
  refine va_forget (fun q h => hS.2.2 q h) ?_
  refine W.widen (k := 600000) (n := 7302250) (Nat.le_of_ble_eq_true rfl) (Nat.le_of_ble_eq_true rfl) ?_
  exact W.base (lw_ret (Drawn.sameBut.refl s.drawn lw_cs) hx hb hr hlocks dL_law_1685)
set_option maxRecDepth 20000 in
theorem gv_law21_103_X11_avoid : GoodIn lw_tbl (wsV RL 103 RX11 yX11_avoid v_X11_avoid) := goodIn_app (goodIn_r _ [1089, 1090, 1091, 103] (by decide +kernel) (by decide +kernel)) (gi tb_X11_avoid gd_X11_avoid)
set_option maxRecDepth 20000 in
theorem gv_law21_106_X12_avoid : GoodIn lw_tbl (wsV RL 106 RX12 yX12_avoid v_X12_avoid) := goodIn_app (goodIn_r _ [1954, 1955, 1956, 114] (by decide +kernel) (by decide +kernel)) (gi tb_X12_avoid gd_X12_avoid)
set_option maxHeartbeats 4000000 in
set_option maxRecDepth 100000 in
theorem law_case_21 {p : Program} {e : Env} {s : State} {m : MethodId} {below : List Frame} {meth : Method} {c : Code} (l : Launch) (G : va_G) (cI cJ cZ cD cR cT : ClassId) {b : Nat} {xs : Nat → Int32} (h0 k0 h0_0 h0_1 h0_2 h0_3 h0_6 h0_7 h0_8 h0_10 h0_11 h0_13 h0_0_0 h0_0_1 h0_0_2 h0_0_3 h0_0_4 h0_0_5 h0_0_8 h0_0_15 h0_0_16 h0_0_1_1 h0_0_1_2 h0_0_1_3 h0_0_1_4 h0_0_1_5 h0_0_1_6 h0_0_1_7 h0_0_1_9 h0_0_1_10 h0_0_1_11 k0_2 k0_3 k0_4 k0_5 k0_9 k0_10 k0_11 k0_20 k0_22 k0_23 k0_25 k0_26 k0_29 k0_30 k0_31 k0_32 k0_39 k0_40 k0_42 k0_44 k0_45 : Nat) {H : Heap} {locs : List Loc} {ls : Array Slot} (hx : p.tables.exec = Jvm.exec) (hb : c.code = code) (hr : meth.sig.returnType = ret) (hml : c.maxLocals = 4) (hown : s.vm.findClass RL = some m.cls) (hts : ∀ w ∈ lw_tbl, w.before #[Value.ref b] s = true) (hX : va_X b 6 xs s s.heap) (hbl : b < s.heap.size) (hlocks : meth.locks = false) (hKK : KK G (tys6 cI cJ cZ cD cR cT) s) (hP : va_P G vwCl [(h0, .inr (11, [.ref h0_0, .ref h0_1, .ref h0_2, .ref h0_3, .int 0, .int 0, .ref h0_6, .ref h0_7, .ref h0_8, .int 0, .ref h0_10, .ref h0_11, .int 0, .ref h0_13, .int 0, .int 0])), (h0_0, .inr (0, [.ref h0_0_0, .ref h0_0_1, .ref h0_0_2, .ref h0_0_3, .ref h0_0_4, .ref h0_0_5, .int 0, .int 0, .ref h0_0_8, .int 0, .int 0, .int 0, .int 0, .long 0, .int 0, .ref h0_0_15, .ref h0_0_16])), (h0_0_1, .inr (1, [.int 0, .ref h0_0_1_1, .ref h0_0_1_2, .ref h0_0_1_3, .ref h0_0_1_4, .ref h0_0_1_5, .ref h0_0_1_6, .ref h0_0_1_7, .int 0, .ref h0_0_1_9, .ref h0_0_1_10, .ref h0_0_1_11, .int (-1), .long 0, .long 0])), (k0, .inr (12, [.int 0, .int 0, .ref k0_2, .ref k0_3, .ref k0_4, .ref k0_5, .int 0, .int 0, .int 0, .ref k0_9, .ref k0_10, .ref k0_11, .int 0, .int 0, .int 0, .int 0, .long 0, .int (-1), .int 0, .int 0, .ref k0_20, .int 0, .ref k0_22, .ref k0_23, .int 0, .ref k0_25, .ref k0_26, .int 0, .int 0, .ref k0_29, .ref k0_30, .ref k0_31, .ref k0_32, .int 0, .long 0, .long 0, .long 0, .long 0, .int 0, .ref k0_39, .ref k0_40, .int 0, .ref k0_42, .int 0, .ref k0_44, .ref k0_45, .int 0, .int 0, .int 0, .int 0, .int 0, .int 0])), (k0_2, .inl (cI, 35942, .inl mrow))] H) (hD : va_D (fun q : Nat => s.heap.size ≤ q) [(h0, .inr (11, [.ref h0_0, .ref h0_1, .ref h0_2, .ref h0_3, .int 0, .int 0, .ref h0_6, .ref h0_7, .ref h0_8, .int 0, .ref h0_10, .ref h0_11, .int 0, .ref h0_13, .int 0, .int 0])), (h0_0, .inr (0, [.ref h0_0_0, .ref h0_0_1, .ref h0_0_2, .ref h0_0_3, .ref h0_0_4, .ref h0_0_5, .int 0, .int 0, .ref h0_0_8, .int 0, .int 0, .int 0, .int 0, .long 0, .int 0, .ref h0_0_15, .ref h0_0_16])), (h0_0_1, .inr (1, [.int 0, .ref h0_0_1_1, .ref h0_0_1_2, .ref h0_0_1_3, .ref h0_0_1_4, .ref h0_0_1_5, .ref h0_0_1_6, .ref h0_0_1_7, .int 0, .ref h0_0_1_9, .ref h0_0_1_10, .ref h0_0_1_11, .int (-1), .long 0, .long 0])), (k0, .inr (12, [.int 0, .int 0, .ref k0_2, .ref k0_3, .ref k0_4, .ref k0_5, .int 0, .int 0, .int 0, .ref k0_9, .ref k0_10, .ref k0_11, .int 0, .int 0, .int 0, .int 0, .long 0, .int (-1), .int 0, .int 0, .ref k0_20, .int 0, .ref k0_22, .ref k0_23, .int 0, .ref k0_25, .ref k0_26, .int 0, .int 0, .ref k0_29, .ref k0_30, .ref k0_31, .ref k0_32, .int 0, .long 0, .long 0, .long 0, .long 0, .int 0, .ref k0_39, .ref k0_40, .int 0, .ref k0_42, .int 0, .ref k0_44, .ref k0_45, .int 0, .int 0, .int 0, .int 0, .int 0, .int 0])), (k0_2, .inl (cI, 35942, .inl mrow))]) (hS : va_S (fun q : Nat => s.heap.size ≤ q) s.heap H locs) (hl : lv_has ls 4 [(3, .int 0), (2, .ref k0), (1, .ref h0), (0, .ref b)]) : W p l e room_1 s m #[Value.ref b] below meth c H locs 221 158368 (lw_Z below #[Value.ref b] s) (F0 m 939 ls []) := by
  have hK := hKK.1
  have hA : ∀ q : Nat, s.heap.size ≤ q → (fun q : Nat => s.heap.size ≤ q) q := fun _ h => h
  have hbA : ¬ (fun q : Nat => s.heap.size ≤ q) b := Nat.not_le.mpr hbl
  refine lv_aload_n hx hb dL_law_939 rfl (lv_at hl 2 rfl) ?_
  refine lv_aload_n hx hb dL_law_940 rfl (lv_at hl 3 rfl) ?_
  refine lv_iload_n hx hb dL_law_941 rfl (lv_at hl 0 rfl) ?_
  refine lv_iconst (v := 1) hx hb dL_law_942 (by decide) ?_
  refine lv_iadd hx hb dL_law_943 ?_
  refine lv_topi (fun x1 ex1 => ?_)
  obtain rfl : 1 = x1 := (ex1.trans (by decide)).symm
  refine va_sld hx hb hX hbl hbA hS (vp_in_iff.mpr (by decide)) dL_law_944 ?_
  refine lv_topi (fun x2 ex2 => ?_)
  obtain rfl : xs 1 = x2 := (ex2.trans rfl).symm
  refine goV (As := [.int (xs 1)]) (rest := []) (wr := [(k0, .inr (12, [.int 0, .int 0, .ref k0_2, .ref k0_3, .ref k0_4, .ref k0_5, .int 0, .int 0, .int 0, .ref k0_9, .ref k0_10, .ref k0_11, .int 0, .int 0, .int 0, .int 0, .long 0, .int (-1), .int 0, .int 0, .ref k0_20, .int 0, .ref k0_22, .ref k0_23, .int 0, .ref k0_25, .ref k0_26, .int 0, .int 0, .ref k0_29, .ref k0_30, .ref k0_31, .ref k0_32, .int 0, .long 0, .long 0, .long 0, .long 0, .int 0, .ref k0_39, .ref k0_40, .int 0, .ref k0_42, .int 0, .ref k0_44, .ref k0_45, .int 0, .int 0, .int 0, .int 0, .int 0, .int 0])), (k0_2, .inl (cI, 35942, .inl mrow))]) ⟨hx, hb, hml, hown, hts⟩ (c_X11_avoid l G cI cJ cZ cD cR cT h0 (xs 1) h0_0 h0_1 h0_2 h0_3 h0_6 h0_7 h0_8 h0_10 h0_11 h0_13 h0_0_0 h0_0_1 h0_0_2 h0_0_3 h0_0_4 h0_0_5 h0_0_8 h0_0_15 h0_0_16 h0_0_1_1 h0_0_1_2 h0_0_1_3 h0_0_1_4 h0_0_1_5 h0_0_1_6 h0_0_1_7 h0_0_1_9 h0_0_1_10 h0_0_1_11 _) (cwV 1 hts gv_law21_103_X11_avoid rfl rfl rfl (by decide +kernel) ⟨Nat.le_of_ble_eq_true rfl, Nat.le_of_ble_eq_true rfl⟩) 0 rfl rfl rfl hKK hP hD hS hA [0, 1, 2] [3, 4] rfl rfl (by decide +kernel) (by decide +kernel) (by decide +kernel) rfl hl.1 rfl (lv_room (Nat.le_of_ble_eq_true rfl)) dL_law_945 ⟨Nat.le_of_ble_eq_true rfl, Nat.le_of_ble_eq_true rfl⟩ (fun v4 q3 gq3 H locs hv4 => appW (ws' := [(k0, .inr (12, [.int 0, .int 0, .ref k0_2, .ref k0_3, .ref k0_4, .ref k0_5, .int 0, .int 0, .int 0, .ref k0_9, .ref k0_10, .ref k0_11, .int 0, .int 0, .int 0, .int 0, .long 0, .int (-1), .int 0, .int 0, .ref k0_20, .int 0, .ref k0_22, .ref k0_23, .int 0, .ref k0_25, .ref k0_26, .int 0, .int 0, .ref k0_29, .ref k0_30, .ref k0_31, .ref k0_32, .int 0, .long 0, .long 0, .long 0, .long 0, .int 0, .ref k0_39, .ref k0_40, .int 0, .ref k0_42, .int 0, .ref k0_44, .ref k0_45, .int 0, .int 0, .int 0, .int 0, .int 0, .int 0])), (k0_2, .inl (cI, 35942, .inl mrow))]) rfl (fun hP hD hS => ?_))
  obtain ⟨r5, rfl, hr5⟩ := hv4
  refine lv_aload_n hx hb dL_law_948 rfl (lv_at hl 1 rfl) ?_
  refine lv_aload_n hx hb dL_law_949 rfl (lv_at hl 3 rfl) ?_
  refine lv_iload_n hx hb dL_law_950 rfl (lv_at hl 0 rfl) ?_
  refine lv_iconst (v := 1) hx hb dL_law_951 (by decide) ?_
  refine lv_iadd hx hb dL_law_952 ?_
  refine lv_topi (fun x6 ex6 => ?_)
  obtain rfl : 1 = x6 := (ex6.trans (by decide)).symm
  refine va_sld hx hb hX hbl hbA hS (vp_in_iff.mpr (by decide)) dL_law_953 ?_
  refine lv_topi (fun x7 ex7 => ?_)
  obtain rfl : xs 1 = x7 := (ex7.trans rfl).symm
  refine goV (As := [.int (xs 1)]) (rest := [.int r5]) (wr := []) ⟨hx, hb, hml, hown, hts⟩ (c_X12_avoid l G cI cJ cZ cD cR cT k0 (xs 1) k0_2 k0_3 k0_4 k0_5 k0_9 k0_10 k0_11 k0_20 k0_22 k0_23 k0_25 k0_26 k0_29 k0_30 k0_31 k0_32 k0_39 k0_40 k0_42 k0_44 k0_45 _) (cwV 1 hts gv_law21_106_X12_avoid rfl rfl rfl (by decide +kernel) ⟨Nat.le_of_ble_eq_true rfl, Nat.le_of_ble_eq_true rfl⟩) 0 rfl rfl rfl hKK hP hD hS hA [0, 1] [] rfl rfl (by decide +kernel) (by decide +kernel) (by decide +kernel) rfl hl.1 rfl (lv_room (Nat.le_of_ble_eq_true rfl)) dL_law_954 ⟨Nat.le_of_ble_eq_true rfl, Nat.le_of_ble_eq_true rfl⟩ (fun v9 q8 gq8 H locs hv9 => appW (ws' := []) rfl (fun hP hD hS => ?_))
  obtain ⟨r10, rfl, hr10⟩ := hv9
  refine lv_icmp_eq (tgt := 1678) hx hb dL_law_957 (by decide) (fun _ => ?_) (fun c => absurd (hr5.trans hr10.symm) c)
  refine lv_iinc (v := 6) (lv' := [(3, .int 6), (2, .ref k0), (1, .ref h0), (0, .ref b)]) hx hb dL_law_1678 hl (k := 0) rfl (by decide) (by decide) rfl (fun ls hl => ?_)
  refine lv_goto (tgt := 18) hx hb dL_law_1681 (by decide) ?_
  refine lv_iload_n hx hb dL_law_18 rfl (lv_at hl 0 rfl) ?_
  refine lv_aload_n hx hb dL_law_19 rfl (lv_at hl 3 rfl) ?_
  refine va_slen hx hb hX hbl hbA hS dL_law_20 ?_
  refine lv_topi (fun x11 ex11 => ?_)
  obtain rfl : 6 = x11 := (ex11.trans rfl).symm
  refine lv_bipush (v := 6) hx hb dL_law_21 (by decide) ?_
  refine lv_isub hx hb dL_law_23 ?_
  refine lv_topi (fun x12 ex12 => ?_)
  obtain rfl : 0 = x12 := (ex12.trans (by decide)).symm
  refine lv_icmp_gt (tgt := 1684) hx hb dL_law_24 (by decide) (fun _ => ?_) (fun c => absurd c (by decide))
  refine lv_iconst (v := 1) hx hb dL_law_1684 (by decide) ?_
  refine va_forget (fun q h => hS.2.2 q h) ?_
  refine W.widen (k := 600000) (n := 7302250) (Nat.le_of_ble_eq_true rfl) (Nat.le_of_ble_eq_true rfl) ?_
  exact W.base (lw_ret (Drawn.sameBut.refl s.drawn lw_cs) hx hb hr hlocks dL_law_1685)
set_option maxRecDepth 20000 in
theorem gv_law22_107_X11_guard : GoodIn lw_tbl (wsV RL 107 RX11 yX11_guard v_X11_guard) := goodIn_app (goodIn_r _ [1093, 1094, 1095, 103] (by decide +kernel) (by decide +kernel)) (gi tb_X11_guard gd_X11_guard)
set_option maxRecDepth 20000 in
theorem gv_law22_110_X12_guard : GoodIn lw_tbl (wsV RL 110 RX12 yX12_guard v_X12_guard) := goodIn_app (goodIn_r _ [1958, 1959, 1960, 114] (by decide +kernel) (by decide +kernel)) (gi tb_X12_guard gd_X12_guard)
set_option maxHeartbeats 4000000 in
set_option maxRecDepth 100000 in
theorem law_case_22 {p : Program} {e : Env} {s : State} {m : MethodId} {below : List Frame} {meth : Method} {c : Code} (l : Launch) (G : va_G) (cI cJ cZ cD cR cT : ClassId) {b : Nat} {xs : Nat → Int32} (h0 k0 h0_0 h0_1 h0_2 h0_3 h0_6 h0_7 h0_8 h0_10 h0_11 h0_13 h0_0_0 h0_0_1 h0_0_2 h0_0_3 h0_0_4 h0_0_5 h0_0_8 h0_0_15 h0_0_16 h0_0_1_1 h0_0_1_2 h0_0_1_3 h0_0_1_4 h0_0_1_5 h0_0_1_6 h0_0_1_7 h0_0_1_9 h0_0_1_10 h0_0_1_11 k0_2 k0_3 k0_4 k0_5 k0_9 k0_10 k0_11 k0_20 k0_22 k0_23 k0_25 k0_26 k0_29 k0_30 k0_31 k0_32 k0_39 k0_40 k0_42 k0_44 k0_45 : Nat) {H : Heap} {locs : List Loc} {ls : Array Slot} (hx : p.tables.exec = Jvm.exec) (hb : c.code = code) (hr : meth.sig.returnType = ret) (hml : c.maxLocals = 4) (hown : s.vm.findClass RL = some m.cls) (hts : ∀ w ∈ lw_tbl, w.before #[Value.ref b] s = true) (hX : va_X b 6 xs s s.heap) (hbl : b < s.heap.size) (hlocks : meth.locks = false) (hKK : KK G (tys6 cI cJ cZ cD cR cT) s) (hP : va_P G vwCl [(h0, .inr (11, [.ref h0_0, .ref h0_1, .ref h0_2, .ref h0_3, .int 0, .int 0, .ref h0_6, .ref h0_7, .ref h0_8, .int 0, .ref h0_10, .ref h0_11, .int 0, .ref h0_13, .int 0, .int 0])), (h0_0, .inr (0, [.ref h0_0_0, .ref h0_0_1, .ref h0_0_2, .ref h0_0_3, .ref h0_0_4, .ref h0_0_5, .int 0, .int 0, .ref h0_0_8, .int 0, .int 0, .int 0, .int 0, .long 0, .int 0, .ref h0_0_15, .ref h0_0_16])), (h0_0_1, .inr (1, [.int 0, .ref h0_0_1_1, .ref h0_0_1_2, .ref h0_0_1_3, .ref h0_0_1_4, .ref h0_0_1_5, .ref h0_0_1_6, .ref h0_0_1_7, .int 0, .ref h0_0_1_9, .ref h0_0_1_10, .ref h0_0_1_11, .int (-1), .long 0, .long 0])), (k0, .inr (12, [.int 0, .int 0, .ref k0_2, .ref k0_3, .ref k0_4, .ref k0_5, .int 0, .int 0, .int 0, .ref k0_9, .ref k0_10, .ref k0_11, .int 0, .int 0, .int 0, .int 0, .long 0, .int (-1), .int 0, .int 0, .ref k0_20, .int 0, .ref k0_22, .ref k0_23, .int 0, .ref k0_25, .ref k0_26, .int 0, .int 0, .ref k0_29, .ref k0_30, .ref k0_31, .ref k0_32, .int 0, .long 0, .long 0, .long 0, .long 0, .int 0, .ref k0_39, .ref k0_40, .int 0, .ref k0_42, .int 0, .ref k0_44, .ref k0_45, .int 0, .int 0, .int 0, .int 0, .int 0, .int 0])), (k0_2, .inl (cI, 35942, .inl mrow))] H) (hD : va_D (fun q : Nat => s.heap.size ≤ q) [(h0, .inr (11, [.ref h0_0, .ref h0_1, .ref h0_2, .ref h0_3, .int 0, .int 0, .ref h0_6, .ref h0_7, .ref h0_8, .int 0, .ref h0_10, .ref h0_11, .int 0, .ref h0_13, .int 0, .int 0])), (h0_0, .inr (0, [.ref h0_0_0, .ref h0_0_1, .ref h0_0_2, .ref h0_0_3, .ref h0_0_4, .ref h0_0_5, .int 0, .int 0, .ref h0_0_8, .int 0, .int 0, .int 0, .int 0, .long 0, .int 0, .ref h0_0_15, .ref h0_0_16])), (h0_0_1, .inr (1, [.int 0, .ref h0_0_1_1, .ref h0_0_1_2, .ref h0_0_1_3, .ref h0_0_1_4, .ref h0_0_1_5, .ref h0_0_1_6, .ref h0_0_1_7, .int 0, .ref h0_0_1_9, .ref h0_0_1_10, .ref h0_0_1_11, .int (-1), .long 0, .long 0])), (k0, .inr (12, [.int 0, .int 0, .ref k0_2, .ref k0_3, .ref k0_4, .ref k0_5, .int 0, .int 0, .int 0, .ref k0_9, .ref k0_10, .ref k0_11, .int 0, .int 0, .int 0, .int 0, .long 0, .int (-1), .int 0, .int 0, .ref k0_20, .int 0, .ref k0_22, .ref k0_23, .int 0, .ref k0_25, .ref k0_26, .int 0, .int 0, .ref k0_29, .ref k0_30, .ref k0_31, .ref k0_32, .int 0, .long 0, .long 0, .long 0, .long 0, .int 0, .ref k0_39, .ref k0_40, .int 0, .ref k0_42, .int 0, .ref k0_44, .ref k0_45, .int 0, .int 0, .int 0, .int 0, .int 0, .int 0])), (k0_2, .inl (cI, 35942, .inl mrow))]) (hS : va_S (fun q : Nat => s.heap.size ≤ q) s.heap H locs) (hl : lv_has ls 4 [(3, .int 0), (2, .ref k0), (1, .ref h0), (0, .ref b)]) : W p l e room_1 s m #[Value.ref b] below meth c H locs 221 158368 (lw_Z below #[Value.ref b] s) (F0 m 962 ls []) := by
  have hK := hKK.1
  have hA : ∀ q : Nat, s.heap.size ≤ q → (fun q : Nat => s.heap.size ≤ q) q := fun _ h => h
  have hbA : ¬ (fun q : Nat => s.heap.size ≤ q) b := Nat.not_le.mpr hbl
  refine lv_aload_n hx hb dL_law_962 rfl (lv_at hl 2 rfl) ?_
  refine lv_aload_n hx hb dL_law_963 rfl (lv_at hl 3 rfl) ?_
  refine lv_iload_n hx hb dL_law_964 rfl (lv_at hl 0 rfl) ?_
  refine lv_iconst (v := 1) hx hb dL_law_965 (by decide) ?_
  refine lv_iadd hx hb dL_law_966 ?_
  refine lv_topi (fun x1 ex1 => ?_)
  obtain rfl : 1 = x1 := (ex1.trans (by decide)).symm
  refine va_sld hx hb hX hbl hbA hS (vp_in_iff.mpr (by decide)) dL_law_967 ?_
  refine lv_topi (fun x2 ex2 => ?_)
  obtain rfl : xs 1 = x2 := (ex2.trans rfl).symm
  refine lv_aload_n hx hb dL_law_968 rfl (lv_at hl 3 rfl) ?_
  refine lv_iload_n hx hb dL_law_969 rfl (lv_at hl 0 rfl) ?_
  refine lv_iconst (v := 2) hx hb dL_law_970 (by decide) ?_
  refine lv_iadd hx hb dL_law_971 ?_
  refine lv_topi (fun x3 ex3 => ?_)
  obtain rfl : 2 = x3 := (ex3.trans (by decide)).symm
  refine va_sld hx hb hX hbl hbA hS (vp_in_iff.mpr (by decide)) dL_law_972 ?_
  refine lv_topi (fun x4 ex4 => ?_)
  obtain rfl : xs 2 = x4 := (ex4.trans rfl).symm
  refine lv_aload_n hx hb dL_law_973 rfl (lv_at hl 3 rfl) ?_
  refine lv_iload_n hx hb dL_law_974 rfl (lv_at hl 0 rfl) ?_
  refine lv_iconst (v := 3) hx hb dL_law_975 (by decide) ?_
  refine lv_iadd hx hb dL_law_976 ?_
  refine lv_topi (fun x5 ex5 => ?_)
  obtain rfl : 3 = x5 := (ex5.trans (by decide)).symm
  refine va_sld hx hb hX hbl hbA hS (vp_in_iff.mpr (by decide)) dL_law_977 ?_
  refine lv_topi (fun x6 ex6 => ?_)
  obtain rfl : xs 3 = x6 := (ex6.trans rfl).symm
  refine goV (As := [.int (xs 1), .int (xs 2), .int (xs 3)]) (rest := []) (wr := [(k0, .inr (12, [.int 0, .int 0, .ref k0_2, .ref k0_3, .ref k0_4, .ref k0_5, .int 0, .int 0, .int 0, .ref k0_9, .ref k0_10, .ref k0_11, .int 0, .int 0, .int 0, .int 0, .long 0, .int (-1), .int 0, .int 0, .ref k0_20, .int 0, .ref k0_22, .ref k0_23, .int 0, .ref k0_25, .ref k0_26, .int 0, .int 0, .ref k0_29, .ref k0_30, .ref k0_31, .ref k0_32, .int 0, .long 0, .long 0, .long 0, .long 0, .int 0, .ref k0_39, .ref k0_40, .int 0, .ref k0_42, .int 0, .ref k0_44, .ref k0_45, .int 0, .int 0, .int 0, .int 0, .int 0, .int 0])), (k0_2, .inl (cI, 35942, .inl mrow))]) ⟨hx, hb, hml, hown, hts⟩ (c_X11_guard l G cI cJ cZ cD cR cT h0 (xs 1) (xs 2) (xs 3) h0_0 h0_1 h0_2 h0_3 h0_6 h0_7 h0_8 h0_10 h0_11 h0_13 h0_0_0 h0_0_1 h0_0_2 h0_0_3 h0_0_4 h0_0_5 h0_0_8 h0_0_15 h0_0_16 h0_0_1_1 h0_0_1_2 h0_0_1_3 h0_0_1_4 h0_0_1_5 h0_0_1_6 h0_0_1_7 h0_0_1_9 h0_0_1_10 h0_0_1_11 _) (cwV 3 hts gv_law22_107_X11_guard rfl rfl rfl (by decide +kernel) ⟨Nat.le_of_ble_eq_true rfl, Nat.le_of_ble_eq_true rfl⟩) 0 rfl rfl rfl hKK hP hD hS hA [0, 1, 2] [3, 4] rfl rfl (by decide +kernel) (by decide +kernel) (by decide +kernel) rfl hl.1 rfl (lv_room (Nat.le_of_ble_eq_true rfl)) dL_law_978 ⟨Nat.le_of_ble_eq_true rfl, Nat.le_of_ble_eq_true rfl⟩ (fun v8 q7 gq7 H locs hv8 => appW (ws' := [(k0, .inr (12, [.int 0, .int 0, .ref k0_2, .ref k0_3, .ref k0_4, .ref k0_5, .int 0, .int 0, .int 0, .ref k0_9, .ref k0_10, .ref k0_11, .int 0, .int 0, .int 0, .int 0, .long 0, .int (-1), .int 0, .int 0, .ref k0_20, .int 0, .ref k0_22, .ref k0_23, .int 0, .ref k0_25, .ref k0_26, .int 0, .int 0, .ref k0_29, .ref k0_30, .ref k0_31, .ref k0_32, .int 0, .long 0, .long 0, .long 0, .long 0, .int 0, .ref k0_39, .ref k0_40, .int 0, .ref k0_42, .int 0, .ref k0_44, .ref k0_45, .int 0, .int 0, .int 0, .int 0, .int 0, .int 0])), (k0_2, .inl (cI, 35942, .inl mrow))]) rfl (fun hP hD hS => ?_))
  obtain ⟨r9, rfl, hr9⟩ := hv8
  refine lv_aload_n hx hb dL_law_981 rfl (lv_at hl 1 rfl) ?_
  refine lv_aload_n hx hb dL_law_982 rfl (lv_at hl 3 rfl) ?_
  refine lv_iload_n hx hb dL_law_983 rfl (lv_at hl 0 rfl) ?_
  refine lv_iconst (v := 1) hx hb dL_law_984 (by decide) ?_
  refine lv_iadd hx hb dL_law_985 ?_
  refine lv_topi (fun x10 ex10 => ?_)
  obtain rfl : 1 = x10 := (ex10.trans (by decide)).symm
  refine va_sld hx hb hX hbl hbA hS (vp_in_iff.mpr (by decide)) dL_law_986 ?_
  refine lv_topi (fun x11 ex11 => ?_)
  obtain rfl : xs 1 = x11 := (ex11.trans rfl).symm
  refine lv_aload_n hx hb dL_law_987 rfl (lv_at hl 3 rfl) ?_
  refine lv_iload_n hx hb dL_law_988 rfl (lv_at hl 0 rfl) ?_
  refine lv_iconst (v := 2) hx hb dL_law_989 (by decide) ?_
  refine lv_iadd hx hb dL_law_990 ?_
  refine lv_topi (fun x12 ex12 => ?_)
  obtain rfl : 2 = x12 := (ex12.trans (by decide)).symm
  refine va_sld hx hb hX hbl hbA hS (vp_in_iff.mpr (by decide)) dL_law_991 ?_
  refine lv_topi (fun x13 ex13 => ?_)
  obtain rfl : xs 2 = x13 := (ex13.trans rfl).symm
  refine lv_aload_n hx hb dL_law_992 rfl (lv_at hl 3 rfl) ?_
  refine lv_iload_n hx hb dL_law_993 rfl (lv_at hl 0 rfl) ?_
  refine lv_iconst (v := 3) hx hb dL_law_994 (by decide) ?_
  refine lv_iadd hx hb dL_law_995 ?_
  refine lv_topi (fun x14 ex14 => ?_)
  obtain rfl : 3 = x14 := (ex14.trans (by decide)).symm
  refine va_sld hx hb hX hbl hbA hS (vp_in_iff.mpr (by decide)) dL_law_996 ?_
  refine lv_topi (fun x15 ex15 => ?_)
  obtain rfl : xs 3 = x15 := (ex15.trans rfl).symm
  refine goV (As := [.int (xs 1), .int (xs 2), .int (xs 3)]) (rest := [.int r9]) (wr := []) ⟨hx, hb, hml, hown, hts⟩ (c_X12_guard l G cI cJ cZ cD cR cT k0 (xs 1) (xs 2) (xs 3) k0_2 k0_3 k0_4 k0_5 k0_9 k0_10 k0_11 k0_20 k0_22 k0_23 k0_25 k0_26 k0_29 k0_30 k0_31 k0_32 k0_39 k0_40 k0_42 k0_44 k0_45 _) (cwV 3 hts gv_law22_110_X12_guard rfl rfl rfl (by decide +kernel) ⟨Nat.le_of_ble_eq_true rfl, Nat.le_of_ble_eq_true rfl⟩) 0 rfl rfl rfl hKK hP hD hS hA [0, 1] [] rfl rfl (by decide +kernel) (by decide +kernel) (by decide +kernel) rfl hl.1 rfl (lv_room (Nat.le_of_ble_eq_true rfl)) dL_law_997 ⟨Nat.le_of_ble_eq_true rfl, Nat.le_of_ble_eq_true rfl⟩ (fun v17 q16 gq16 H locs hv17 => appW (ws' := []) rfl (fun hP hD hS => ?_))
  obtain ⟨r18, rfl, hr18⟩ := hv17
  refine lv_icmp_eq (tgt := 1678) hx hb dL_law_1000 (by decide) (fun _ => ?_) (fun c => absurd (hr9.trans hr18.symm) c)
  refine lv_iinc (v := 6) (lv' := [(3, .int 6), (2, .ref k0), (1, .ref h0), (0, .ref b)]) hx hb dL_law_1678 hl (k := 0) rfl (by decide) (by decide) rfl (fun ls hl => ?_)
  refine lv_goto (tgt := 18) hx hb dL_law_1681 (by decide) ?_
  refine lv_iload_n hx hb dL_law_18 rfl (lv_at hl 0 rfl) ?_
  refine lv_aload_n hx hb dL_law_19 rfl (lv_at hl 3 rfl) ?_
  refine va_slen hx hb hX hbl hbA hS dL_law_20 ?_
  refine lv_topi (fun x19 ex19 => ?_)
  obtain rfl : 6 = x19 := (ex19.trans rfl).symm
  refine lv_bipush (v := 6) hx hb dL_law_21 (by decide) ?_
  refine lv_isub hx hb dL_law_23 ?_
  refine lv_topi (fun x20 ex20 => ?_)
  obtain rfl : 0 = x20 := (ex20.trans (by decide)).symm
  refine lv_icmp_gt (tgt := 1684) hx hb dL_law_24 (by decide) (fun _ => ?_) (fun c => absurd c (by decide))
  refine lv_iconst (v := 1) hx hb dL_law_1684 (by decide) ?_
  refine va_forget (fun q h => hS.2.2 q h) ?_
  refine W.widen (k := 600000) (n := 7302250) (Nat.le_of_ble_eq_true rfl) (Nat.le_of_ble_eq_true rfl) ?_
  exact W.base (lw_ret (Drawn.sameBut.refl s.drawn lw_cs) hx hb hr hlocks dL_law_1685)
set_option maxRecDepth 20000 in
theorem gv_law23_111_X11_take : GoodIn lw_tbl (wsV RL 111 RX11 yX11_take v_X11_take) := goodIn_app (goodIn_r _ [1101, 1102, 1103, 103] (by decide +kernel) (by decide +kernel)) (gi tb_X11_take gd_X11_take)
set_option maxRecDepth 20000 in
theorem gv_law23_114_X12_take : GoodIn lw_tbl (wsV RL 114 RX12 yX12_take v_X12_take) := goodIn_app (goodIn_r _ [1962, 1963, 1964, 114] (by decide +kernel) (by decide +kernel)) (gi tb_X12_take gd_X12_take)
set_option maxHeartbeats 4000000 in
set_option maxRecDepth 100000 in
theorem law_case_23 {p : Program} {e : Env} {s : State} {m : MethodId} {below : List Frame} {meth : Method} {c : Code} (l : Launch) (G : va_G) (cI cJ cZ cD cR cT : ClassId) {b : Nat} {xs : Nat → Int32} (h0 k0 h0_0 h0_1 h0_2 h0_3 h0_6 h0_7 h0_8 h0_10 h0_11 h0_13 h0_0_0 h0_0_1 h0_0_2 h0_0_3 h0_0_4 h0_0_5 h0_0_8 h0_0_15 h0_0_16 h0_0_0_1 h0_0_0_2 h0_0_0_3 h0_0_0_4 h0_0_0_5 h0_0_0_6 h0_0_0_7 h0_0_0_8 h0_0_0_9 k0_2 k0_3 k0_4 k0_5 k0_9 k0_10 k0_11 k0_20 k0_22 k0_23 k0_25 k0_26 k0_29 k0_30 k0_31 k0_32 k0_39 k0_40 k0_42 k0_44 k0_45 : Nat) {H : Heap} {locs : List Loc} {ls : Array Slot} (hx : p.tables.exec = Jvm.exec) (hb : c.code = code) (hr : meth.sig.returnType = ret) (hml : c.maxLocals = 4) (hown : s.vm.findClass RL = some m.cls) (hts : ∀ w ∈ lw_tbl, w.before #[Value.ref b] s = true) (hX : va_X b 6 xs s s.heap) (hbl : b < s.heap.size) (hlocks : meth.locks = false) (hKK : KK G (tys6 cI cJ cZ cD cR cT) s) (hP : va_P G vwCl [(h0, .inr (11, [.ref h0_0, .ref h0_1, .ref h0_2, .ref h0_3, .int 0, .int 0, .ref h0_6, .ref h0_7, .ref h0_8, .int 0, .ref h0_10, .ref h0_11, .int 0, .ref h0_13, .int 0, .int 0])), (h0_0, .inr (0, [.ref h0_0_0, .ref h0_0_1, .ref h0_0_2, .ref h0_0_3, .ref h0_0_4, .ref h0_0_5, .int 0, .int 0, .ref h0_0_8, .int 0, .int 0, .int 0, .int 0, .long 0, .int 0, .ref h0_0_15, .ref h0_0_16])), (h0_0_0, .inr (4, [.int 0, .ref h0_0_0_1, .ref h0_0_0_2, .ref h0_0_0_3, .ref h0_0_0_4, .ref h0_0_0_5, .ref h0_0_0_6, .ref h0_0_0_7, .ref h0_0_0_8, .ref h0_0_0_9])), (k0, .inr (12, [.int 0, .int 0, .ref k0_2, .ref k0_3, .ref k0_4, .ref k0_5, .int 0, .int 0, .int 0, .ref k0_9, .ref k0_10, .ref k0_11, .int 0, .int 0, .int 0, .int 0, .long 0, .int (-1), .int 0, .int 0, .ref k0_20, .int 0, .ref k0_22, .ref k0_23, .int 0, .ref k0_25, .ref k0_26, .int 0, .int 0, .ref k0_29, .ref k0_30, .ref k0_31, .ref k0_32, .int 0, .long 0, .long 0, .long 0, .long 0, .int 0, .ref k0_39, .ref k0_40, .int 0, .ref k0_42, .int 0, .ref k0_44, .ref k0_45, .int 0, .int 0, .int 0, .int 0, .int 0, .int 0])), (k0_2, .inl (cI, 35942, .inl mrow))] H) (hD : va_D (fun q : Nat => s.heap.size ≤ q) [(h0, .inr (11, [.ref h0_0, .ref h0_1, .ref h0_2, .ref h0_3, .int 0, .int 0, .ref h0_6, .ref h0_7, .ref h0_8, .int 0, .ref h0_10, .ref h0_11, .int 0, .ref h0_13, .int 0, .int 0])), (h0_0, .inr (0, [.ref h0_0_0, .ref h0_0_1, .ref h0_0_2, .ref h0_0_3, .ref h0_0_4, .ref h0_0_5, .int 0, .int 0, .ref h0_0_8, .int 0, .int 0, .int 0, .int 0, .long 0, .int 0, .ref h0_0_15, .ref h0_0_16])), (h0_0_0, .inr (4, [.int 0, .ref h0_0_0_1, .ref h0_0_0_2, .ref h0_0_0_3, .ref h0_0_0_4, .ref h0_0_0_5, .ref h0_0_0_6, .ref h0_0_0_7, .ref h0_0_0_8, .ref h0_0_0_9])), (k0, .inr (12, [.int 0, .int 0, .ref k0_2, .ref k0_3, .ref k0_4, .ref k0_5, .int 0, .int 0, .int 0, .ref k0_9, .ref k0_10, .ref k0_11, .int 0, .int 0, .int 0, .int 0, .long 0, .int (-1), .int 0, .int 0, .ref k0_20, .int 0, .ref k0_22, .ref k0_23, .int 0, .ref k0_25, .ref k0_26, .int 0, .int 0, .ref k0_29, .ref k0_30, .ref k0_31, .ref k0_32, .int 0, .long 0, .long 0, .long 0, .long 0, .int 0, .ref k0_39, .ref k0_40, .int 0, .ref k0_42, .int 0, .ref k0_44, .ref k0_45, .int 0, .int 0, .int 0, .int 0, .int 0, .int 0])), (k0_2, .inl (cI, 35942, .inl mrow))]) (hS : va_S (fun q : Nat => s.heap.size ≤ q) s.heap H locs) (hl : lv_has ls 4 [(3, .int 0), (2, .ref k0), (1, .ref h0), (0, .ref b)]) : W p l e room_1 s m #[Value.ref b] below meth c H locs 221 158368 (lw_Z below #[Value.ref b] s) (F0 m 1005 ls []) := by
  have hK := hKK.1
  have hA : ∀ q : Nat, s.heap.size ≤ q → (fun q : Nat => s.heap.size ≤ q) q := fun _ h => h
  have hbA : ¬ (fun q : Nat => s.heap.size ≤ q) b := Nat.not_le.mpr hbl
  refine lv_aload_n hx hb dL_law_1005 rfl (lv_at hl 2 rfl) ?_
  refine lv_aload_n hx hb dL_law_1006 rfl (lv_at hl 3 rfl) ?_
  refine lv_iload_n hx hb dL_law_1007 rfl (lv_at hl 0 rfl) ?_
  refine lv_iconst (v := 1) hx hb dL_law_1008 (by decide) ?_
  refine lv_iadd hx hb dL_law_1009 ?_
  refine lv_topi (fun x1 ex1 => ?_)
  obtain rfl : 1 = x1 := (ex1.trans (by decide)).symm
  refine va_sld hx hb hX hbl hbA hS (vp_in_iff.mpr (by decide)) dL_law_1010 ?_
  refine lv_topi (fun x2 ex2 => ?_)
  obtain rfl : xs 1 = x2 := (ex2.trans rfl).symm
  refine lv_aload_n hx hb dL_law_1011 rfl (lv_at hl 3 rfl) ?_
  refine lv_iload_n hx hb dL_law_1012 rfl (lv_at hl 0 rfl) ?_
  refine lv_iconst (v := 2) hx hb dL_law_1013 (by decide) ?_
  refine lv_iadd hx hb dL_law_1014 ?_
  refine lv_topi (fun x3 ex3 => ?_)
  obtain rfl : 2 = x3 := (ex3.trans (by decide)).symm
  refine va_sld hx hb hX hbl hbA hS (vp_in_iff.mpr (by decide)) dL_law_1015 ?_
  refine lv_topi (fun x4 ex4 => ?_)
  obtain rfl : xs 2 = x4 := (ex4.trans rfl).symm
  refine lv_aload_n hx hb dL_law_1016 rfl (lv_at hl 3 rfl) ?_
  refine lv_iload_n hx hb dL_law_1017 rfl (lv_at hl 0 rfl) ?_
  refine lv_iconst (v := 3) hx hb dL_law_1018 (by decide) ?_
  refine lv_iadd hx hb dL_law_1019 ?_
  refine lv_topi (fun x5 ex5 => ?_)
  obtain rfl : 3 = x5 := (ex5.trans (by decide)).symm
  refine va_sld hx hb hX hbl hbA hS (vp_in_iff.mpr (by decide)) dL_law_1020 ?_
  refine lv_topi (fun x6 ex6 => ?_)
  obtain rfl : xs 3 = x6 := (ex6.trans rfl).symm
  refine goV (As := [.int (xs 1), .int (xs 2), .int (xs 3)]) (rest := []) (wr := [(k0, .inr (12, [.int 0, .int 0, .ref k0_2, .ref k0_3, .ref k0_4, .ref k0_5, .int 0, .int 0, .int 0, .ref k0_9, .ref k0_10, .ref k0_11, .int 0, .int 0, .int 0, .int 0, .long 0, .int (-1), .int 0, .int 0, .ref k0_20, .int 0, .ref k0_22, .ref k0_23, .int 0, .ref k0_25, .ref k0_26, .int 0, .int 0, .ref k0_29, .ref k0_30, .ref k0_31, .ref k0_32, .int 0, .long 0, .long 0, .long 0, .long 0, .int 0, .ref k0_39, .ref k0_40, .int 0, .ref k0_42, .int 0, .ref k0_44, .ref k0_45, .int 0, .int 0, .int 0, .int 0, .int 0, .int 0])), (k0_2, .inl (cI, 35942, .inl mrow))]) ⟨hx, hb, hml, hown, hts⟩ (c_X11_take l G cI cJ cZ cD cR cT h0 (xs 1) (xs 2) (xs 3) h0_0 h0_1 h0_2 h0_3 h0_6 h0_7 h0_8 h0_10 h0_11 h0_13 h0_0_0 h0_0_1 h0_0_2 h0_0_3 h0_0_4 h0_0_5 h0_0_8 h0_0_15 h0_0_16 h0_0_0_1 h0_0_0_2 h0_0_0_3 h0_0_0_4 h0_0_0_5 h0_0_0_6 h0_0_0_7 h0_0_0_8 h0_0_0_9 _) (cwV 3 hts gv_law23_111_X11_take rfl rfl rfl (by decide +kernel) ⟨Nat.le_of_ble_eq_true rfl, Nat.le_of_ble_eq_true rfl⟩) 0 rfl rfl rfl hKK hP hD hS hA [0, 1, 2] [3, 4] rfl rfl (by decide +kernel) (by decide +kernel) (by decide +kernel) rfl hl.1 rfl (lv_room (Nat.le_of_ble_eq_true rfl)) dL_law_1021 ⟨Nat.le_of_ble_eq_true rfl, Nat.le_of_ble_eq_true rfl⟩ (fun v8 q7 gq7 H locs hv8 => appW (ws' := [(k0, .inr (12, [.int 0, .int 0, .ref k0_2, .ref k0_3, .ref k0_4, .ref k0_5, .int 0, .int 0, .int 0, .ref k0_9, .ref k0_10, .ref k0_11, .int 0, .int 0, .int 0, .int 0, .long 0, .int (-1), .int 0, .int 0, .ref k0_20, .int 0, .ref k0_22, .ref k0_23, .int 0, .ref k0_25, .ref k0_26, .int 0, .int 0, .ref k0_29, .ref k0_30, .ref k0_31, .ref k0_32, .int 0, .long 0, .long 0, .long 0, .long 0, .int 0, .ref k0_39, .ref k0_40, .int 0, .ref k0_42, .int 0, .ref k0_44, .ref k0_45, .int 0, .int 0, .int 0, .int 0, .int 0, .int 0])), (k0_2, .inl (cI, 35942, .inl mrow))]) rfl (fun hP hD hS => ?_))
  obtain ⟨r9, rfl, hr9⟩ := hv8
  refine lv_aload_n hx hb dL_law_1024 rfl (lv_at hl 1 rfl) ?_
  refine lv_aload_n hx hb dL_law_1025 rfl (lv_at hl 3 rfl) ?_
  refine lv_iload_n hx hb dL_law_1026 rfl (lv_at hl 0 rfl) ?_
  refine lv_iconst (v := 1) hx hb dL_law_1027 (by decide) ?_
  refine lv_iadd hx hb dL_law_1028 ?_
  refine lv_topi (fun x10 ex10 => ?_)
  obtain rfl : 1 = x10 := (ex10.trans (by decide)).symm
  refine va_sld hx hb hX hbl hbA hS (vp_in_iff.mpr (by decide)) dL_law_1029 ?_
  refine lv_topi (fun x11 ex11 => ?_)
  obtain rfl : xs 1 = x11 := (ex11.trans rfl).symm
  refine lv_aload_n hx hb dL_law_1030 rfl (lv_at hl 3 rfl) ?_
  refine lv_iload_n hx hb dL_law_1031 rfl (lv_at hl 0 rfl) ?_
  refine lv_iconst (v := 2) hx hb dL_law_1032 (by decide) ?_
  refine lv_iadd hx hb dL_law_1033 ?_
  refine lv_topi (fun x12 ex12 => ?_)
  obtain rfl : 2 = x12 := (ex12.trans (by decide)).symm
  refine va_sld hx hb hX hbl hbA hS (vp_in_iff.mpr (by decide)) dL_law_1034 ?_
  refine lv_topi (fun x13 ex13 => ?_)
  obtain rfl : xs 2 = x13 := (ex13.trans rfl).symm
  refine lv_aload_n hx hb dL_law_1035 rfl (lv_at hl 3 rfl) ?_
  refine lv_iload_n hx hb dL_law_1036 rfl (lv_at hl 0 rfl) ?_
  refine lv_iconst (v := 3) hx hb dL_law_1037 (by decide) ?_
  refine lv_iadd hx hb dL_law_1038 ?_
  refine lv_topi (fun x14 ex14 => ?_)
  obtain rfl : 3 = x14 := (ex14.trans (by decide)).symm
  refine va_sld hx hb hX hbl hbA hS (vp_in_iff.mpr (by decide)) dL_law_1039 ?_
  refine lv_topi (fun x15 ex15 => ?_)
  obtain rfl : xs 3 = x15 := (ex15.trans rfl).symm
  refine goV (As := [.int (xs 1), .int (xs 2), .int (xs 3)]) (rest := [.int r9]) (wr := []) ⟨hx, hb, hml, hown, hts⟩ (c_X12_take l G cI cJ cZ cD cR cT k0 (xs 1) (xs 2) (xs 3) k0_2 k0_3 k0_4 k0_5 k0_9 k0_10 k0_11 k0_20 k0_22 k0_23 k0_25 k0_26 k0_29 k0_30 k0_31 k0_32 k0_39 k0_40 k0_42 k0_44 k0_45 _) (cwV 3 hts gv_law23_114_X12_take rfl rfl rfl (by decide +kernel) ⟨Nat.le_of_ble_eq_true rfl, Nat.le_of_ble_eq_true rfl⟩) 0 rfl rfl rfl hKK hP hD hS hA [0, 1] [] rfl rfl (by decide +kernel) (by decide +kernel) (by decide +kernel) rfl hl.1 rfl (lv_room (Nat.le_of_ble_eq_true rfl)) dL_law_1040 ⟨Nat.le_of_ble_eq_true rfl, Nat.le_of_ble_eq_true rfl⟩ (fun v17 q16 gq16 H locs hv17 => appW (ws' := []) rfl (fun hP hD hS => ?_))
  obtain ⟨r18, rfl, hr18⟩ := hv17
  refine lv_icmp_eq (tgt := 1678) hx hb dL_law_1043 (by decide) (fun _ => ?_) (fun c => absurd (hr9.trans hr18.symm) c)
  refine lv_iinc (v := 6) (lv' := [(3, .int 6), (2, .ref k0), (1, .ref h0), (0, .ref b)]) hx hb dL_law_1678 hl (k := 0) rfl (by decide) (by decide) rfl (fun ls hl => ?_)
  refine lv_goto (tgt := 18) hx hb dL_law_1681 (by decide) ?_
  refine lv_iload_n hx hb dL_law_18 rfl (lv_at hl 0 rfl) ?_
  refine lv_aload_n hx hb dL_law_19 rfl (lv_at hl 3 rfl) ?_
  refine va_slen hx hb hX hbl hbA hS dL_law_20 ?_
  refine lv_topi (fun x19 ex19 => ?_)
  obtain rfl : 6 = x19 := (ex19.trans rfl).symm
  refine lv_bipush (v := 6) hx hb dL_law_21 (by decide) ?_
  refine lv_isub hx hb dL_law_23 ?_
  refine lv_topi (fun x20 ex20 => ?_)
  obtain rfl : 0 = x20 := (ex20.trans (by decide)).symm
  refine lv_icmp_gt (tgt := 1684) hx hb dL_law_24 (by decide) (fun _ => ?_) (fun c => absurd c (by decide))
  refine lv_iconst (v := 1) hx hb dL_law_1684 (by decide) ?_
  refine va_forget (fun q h => hS.2.2 q h) ?_
  refine W.widen (k := 600000) (n := 7302250) (Nat.le_of_ble_eq_true rfl) (Nat.le_of_ble_eq_true rfl) ?_
  exact W.base (lw_ret (Drawn.sameBut.refl s.drawn lw_cs) hx hb hr hlocks dL_law_1685)
