/-! ===== the law: its instructions, 3 (by program, wip/whole/p107.py) ===== -/
theorem dl_679 : decode code 679 = .ok ((.iconst 1), 1) := by decide +kernel
theorem dl_680 : decode code 680 = .ok (.iadd, 1) := by decide +kernel
theorem dl_681 : decode code 681 = .ok (.iaload, 1) := by decide +kernel
theorem dl_682 : decode code 682 = .ok ((.aload_n 0), 1) := by decide +kernel
theorem dl_683 : decode code 683 = .ok ((.iload 4), 2) := by decide +kernel
theorem dl_685 : decode code 685 = .ok ((.iconst 2), 1) := by decide +kernel
theorem dl_686 : decode code 686 = .ok (.iadd, 1) := by decide +kernel
theorem dl_687 : decode code 687 = .ok (.iaload, 1) := by decide +kernel
theorem dl_688 : decode code 688 = .ok (.i2l, 1) := by decide +kernel
theorem dl_689 : decode code 689 = .ok ((.bipush 32), 2) := by decide +kernel
theorem dl_691 : decode code 691 = .ok (.lshl, 1) := by decide +kernel
theorem dl_692 : decode code 692 = .ok ((.aload_n 0), 1) := by decide +kernel
theorem dl_693 : decode code 693 = .ok ((.iload 4), 2) := by decide +kernel
theorem dl_695 : decode code 695 = .ok ((.iconst 3), 1) := by decide +kernel
theorem dl_696 : decode code 696 = .ok (.iadd, 1) := by decide +kernel
theorem dl_697 : decode code 697 = .ok (.iaload, 1) := by decide +kernel
theorem dl_698 : decode code 698 = .ok (.i2l, 1) := by decide +kernel
theorem dl_699 : decode code 699 = .ok ((.ldc2_w 76), 3) := by decide +kernel
theorem dl_702 : decode code 702 = .ok (.land, 1) := by decide +kernel
theorem dl_703 : decode code 703 = .ok (.lor, 1) := by decide +kernel
theorem dl_704 : decode code 704 = .ok ((.invokevirtual 82), 3) := by decide +kernel
theorem dl_707 : decode code 707 = .ok ((.if_icmp .eq 736), 3) := by decide +kernel
theorem dl_710 : decode code 710 = .ok ((.iconst 0), 1) := by decide +kernel
theorem dl_711 : decode code 711 = .ok (.ireturn, 1) := by decide +kernel
theorem dl_712 : decode code 712 = .ok ((.aload_n 1), 1) := by decide +kernel
theorem dl_713 : decode code 713 = .ok ((.invokevirtual 83), 3) := by decide +kernel
theorem dl_716 : decode code 716 = .ok ((.aload_n 2), 1) := by decide +kernel
theorem dl_717 : decode code 717 = .ok ((.invokevirtual 86), 3) := by decide +kernel
theorem dl_720 : decode code 720 = .ok ((.if_icmp .eq 723), 3) := by decide +kernel
theorem dl_723 : decode code 723 = .ok ((.iconst 0), 1) := by decide +kernel
theorem dl_724 : decode code 724 = .ok (.ireturn, 1) := by decide +kernel
theorem dl_725 : decode code 725 = .ok ((.aload_n 1), 1) := by decide +kernel
theorem dl_726 : decode code 726 = .ok ((.aload_n 0), 1) := by decide +kernel
theorem dl_727 : decode code 727 = .ok ((.iload 4), 2) := by decide +kernel
theorem dl_729 : decode code 729 = .ok ((.iconst 1), 1) := by decide +kernel
theorem dl_730 : decode code 730 = .ok (.iadd, 1) := by decide +kernel
theorem dl_731 : decode code 731 = .ok (.iaload, 1) := by decide +kernel
theorem dl_732 : decode code 732 = .ok ((.aload_n 0), 1) := by decide +kernel
theorem dl_733 : decode code 733 = .ok ((.iload 4), 2) := by decide +kernel
theorem dl_735 : decode code 735 = .ok ((.iconst 2), 1) := by decide +kernel
theorem dl_736 : decode code 736 = .ok (.iadd, 1) := by decide +kernel
theorem dl_737 : decode code 737 = .ok (.iaload, 1) := by decide +kernel
theorem dl_738 : decode code 738 = .ok ((.invokevirtual 87), 3) := by decide +kernel
theorem dl_741 : decode code 741 = .ok ((.aload_n 2), 1) := by decide +kernel
theorem dl_742 : decode code 742 = .ok ((.aload_n 0), 1) := by decide +kernel
theorem dl_743 : decode code 743 = .ok ((.iload 4), 2) := by decide +kernel
theorem dl_745 : decode code 745 = .ok ((.iconst 1), 1) := by decide +kernel
theorem dl_746 : decode code 746 = .ok (.iadd, 1) := by decide +kernel
theorem dl_747 : decode code 747 = .ok (.iaload, 1) := by decide +kernel
theorem dl_748 : decode code 748 = .ok ((.aload_n 0), 1) := by decide +kernel
theorem dl_749 : decode code 749 = .ok ((.iload 4), 2) := by decide +kernel
theorem dl_751 : decode code 751 = .ok ((.iconst 2), 1) := by decide +kernel
theorem dl_752 : decode code 752 = .ok (.iadd, 1) := by decide +kernel
theorem dl_753 : decode code 753 = .ok (.iaload, 1) := by decide +kernel
theorem dl_754 : decode code 754 = .ok ((.invokevirtual 90), 3) := by decide +kernel
theorem dl_757 : decode code 757 = .ok ((.if_icmp .eq 686), 3) := by decide +kernel
theorem dl_760 : decode code 760 = .ok ((.iconst 0), 1) := by decide +kernel
theorem dl_761 : decode code 761 = .ok (.ireturn, 1) := by decide +kernel
theorem dl_762 : decode code 762 = .ok ((.aload_n 1), 1) := by decide +kernel
theorem dl_763 : decode code 763 = .ok ((.aload_n 0), 1) := by decide +kernel
theorem dl_764 : decode code 764 = .ok ((.iload 4), 2) := by decide +kernel
theorem dl_766 : decode code 766 = .ok ((.iconst 1), 1) := by decide +kernel
theorem dl_767 : decode code 767 = .ok (.iadd, 1) := by decide +kernel
theorem dl_768 : decode code 768 = .ok (.iaload, 1) := by decide +kernel
theorem dl_769 : decode code 769 = .ok ((.aload_n 0), 1) := by decide +kernel
theorem dl_770 : decode code 770 = .ok ((.iload 4), 2) := by decide +kernel
theorem dl_772 : decode code 772 = .ok ((.iconst 2), 1) := by decide +kernel
theorem dl_773 : decode code 773 = .ok (.iadd, 1) := by decide +kernel
theorem dl_774 : decode code 774 = .ok (.iaload, 1) := by decide +kernel
theorem dl_775 : decode code 775 = .ok ((.invokevirtual 91), 3) := by decide +kernel
theorem dl_778 : decode code 778 = .ok ((.aload_n 2), 1) := by decide +kernel
theorem dl_779 : decode code 779 = .ok ((.aload_n 0), 1) := by decide +kernel
theorem dl_780 : decode code 780 = .ok ((.iload 4), 2) := by decide +kernel
theorem dl_782 : decode code 782 = .ok ((.iconst 1), 1) := by decide +kernel
theorem dl_783 : decode code 783 = .ok (.iadd, 1) := by decide +kernel
theorem dl_784 : decode code 784 = .ok (.iaload, 1) := by decide +kernel
theorem dl_785 : decode code 785 = .ok ((.aload_n 0), 1) := by decide +kernel
theorem dl_786 : decode code 786 = .ok ((.iload 4), 2) := by decide +kernel
theorem dl_788 : decode code 788 = .ok ((.iconst 2), 1) := by decide +kernel
theorem dl_789 : decode code 789 = .ok (.iadd, 1) := by decide +kernel
theorem dl_790 : decode code 790 = .ok (.iaload, 1) := by decide +kernel
theorem dl_791 : decode code 791 = .ok ((.invokevirtual 94), 3) := by decide +kernel
theorem dl_794 : decode code 794 = .ok ((.if_icmp .eq 649), 3) := by decide +kernel
theorem dl_797 : decode code 797 = .ok ((.iconst 0), 1) := by decide +kernel
theorem dl_798 : decode code 798 = .ok (.ireturn, 1) := by decide +kernel
theorem dl_799 : decode code 799 = .ok ((.aload_n 1), 1) := by decide +kernel
theorem dl_800 : decode code 800 = .ok ((.aload_n 0), 1) := by decide +kernel
theorem dl_801 : decode code 801 = .ok ((.iload 4), 2) := by decide +kernel
theorem dl_803 : decode code 803 = .ok ((.iconst 1), 1) := by decide +kernel
theorem dl_804 : decode code 804 = .ok (.iadd, 1) := by decide +kernel
theorem dl_805 : decode code 805 = .ok (.iaload, 1) := by decide +kernel
theorem dl_806 : decode code 806 = .ok ((.aload_n 0), 1) := by decide +kernel
theorem dl_807 : decode code 807 = .ok ((.iload 4), 2) := by decide +kernel
theorem dl_809 : decode code 809 = .ok ((.iconst 2), 1) := by decide +kernel
theorem dl_810 : decode code 810 = .ok (.iadd, 1) := by decide +kernel
theorem dl_811 : decode code 811 = .ok (.iaload, 1) := by decide +kernel
theorem dl_812 : decode code 812 = .ok ((.invokevirtual 95), 3) := by decide +kernel
theorem dl_815 : decode code 815 = .ok ((.aload_n 2), 1) := by decide +kernel
theorem dl_816 : decode code 816 = .ok ((.aload_n 0), 1) := by decide +kernel
theorem dl_817 : decode code 817 = .ok ((.iload 4), 2) := by decide +kernel
theorem dl_819 : decode code 819 = .ok ((.iconst 1), 1) := by decide +kernel
theorem dl_820 : decode code 820 = .ok (.iadd, 1) := by decide +kernel
theorem dl_821 : decode code 821 = .ok (.iaload, 1) := by decide +kernel
theorem dl_822 : decode code 822 = .ok ((.aload_n 0), 1) := by decide +kernel
theorem dl_823 : decode code 823 = .ok ((.iload 4), 2) := by decide +kernel
theorem dl_825 : decode code 825 = .ok ((.iconst 2), 1) := by decide +kernel
theorem dl_826 : decode code 826 = .ok (.iadd, 1) := by decide +kernel
theorem dl_827 : decode code 827 = .ok (.iaload, 1) := by decide +kernel
theorem dl_828 : decode code 828 = .ok ((.invokevirtual 98), 3) := by decide +kernel
theorem dl_831 : decode code 831 = .ok ((.if_icmp .eq 612), 3) := by decide +kernel
theorem dl_834 : decode code 834 = .ok ((.iconst 0), 1) := by decide +kernel
theorem dl_835 : decode code 835 = .ok (.ireturn, 1) := by decide +kernel
theorem dl_836 : decode code 836 = .ok ((.aload_n 1), 1) := by decide +kernel
theorem dl_837 : decode code 837 = .ok ((.aload_n 0), 1) := by decide +kernel
theorem dl_838 : decode code 838 = .ok ((.iload 4), 2) := by decide +kernel
theorem dl_840 : decode code 840 = .ok ((.iconst 1), 1) := by decide +kernel
theorem dl_841 : decode code 841 = .ok (.iadd, 1) := by decide +kernel
theorem dl_842 : decode code 842 = .ok (.iaload, 1) := by decide +kernel
theorem dl_843 : decode code 843 = .ok ((.aload_n 0), 1) := by decide +kernel
theorem dl_844 : decode code 844 = .ok ((.iload 4), 2) := by decide +kernel
theorem dl_846 : decode code 846 = .ok ((.iconst 2), 1) := by decide +kernel
theorem dl_847 : decode code 847 = .ok (.iadd, 1) := by decide +kernel
theorem dl_848 : decode code 848 = .ok (.iaload, 1) := by decide +kernel
theorem dl_849 : decode code 849 = .ok ((.invokevirtual 99), 3) := by decide +kernel
theorem dl_852 : decode code 852 = .ok ((.aload_n 2), 1) := by decide +kernel
theorem dl_853 : decode code 853 = .ok ((.aload_n 0), 1) := by decide +kernel
theorem dl_854 : decode code 854 = .ok ((.iload 4), 2) := by decide +kernel
theorem dl_856 : decode code 856 = .ok ((.iconst 1), 1) := by decide +kernel
theorem dl_857 : decode code 857 = .ok (.iadd, 1) := by decide +kernel
theorem dl_858 : decode code 858 = .ok (.iaload, 1) := by decide +kernel
theorem dl_859 : decode code 859 = .ok ((.aload_n 0), 1) := by decide +kernel
theorem dl_860 : decode code 860 = .ok ((.iload 4), 2) := by decide +kernel
theorem dl_862 : decode code 862 = .ok ((.iconst 2), 1) := by decide +kernel
theorem dl_863 : decode code 863 = .ok (.iadd, 1) := by decide +kernel
theorem dl_864 : decode code 864 = .ok (.iaload, 1) := by decide +kernel
theorem dl_865 : decode code 865 = .ok ((.invokevirtual 102), 3) := by decide +kernel
theorem dl_868 : decode code 868 = .ok ((.if_icmp .eq 575), 3) := by decide +kernel
theorem dl_871 : decode code 871 = .ok ((.iconst 0), 1) := by decide +kernel
theorem dl_872 : decode code 872 = .ok (.ireturn, 1) := by decide +kernel
theorem dl_873 : decode code 873 = .ok ((.aload_n 1), 1) := by decide +kernel
theorem dl_874 : decode code 874 = .ok ((.aload_n 0), 1) := by decide +kernel
theorem dl_875 : decode code 875 = .ok ((.iload 4), 2) := by decide +kernel
theorem dl_877 : decode code 877 = .ok ((.iconst 1), 1) := by decide +kernel
theorem dl_878 : decode code 878 = .ok (.iadd, 1) := by decide +kernel
theorem dl_879 : decode code 879 = .ok (.iaload, 1) := by decide +kernel
theorem dl_880 : decode code 880 = .ok ((.aload_n 0), 1) := by decide +kernel
theorem dl_881 : decode code 881 = .ok ((.iload 4), 2) := by decide +kernel
theorem dl_883 : decode code 883 = .ok ((.iconst 2), 1) := by decide +kernel
theorem dl_884 : decode code 884 = .ok (.iadd, 1) := by decide +kernel
theorem dl_885 : decode code 885 = .ok (.iaload, 1) := by decide +kernel
theorem dl_886 : decode code 886 = .ok ((.invokevirtual 103), 3) := by decide +kernel
theorem dl_889 : decode code 889 = .ok ((.aload_n 2), 1) := by decide +kernel
theorem dl_890 : decode code 890 = .ok ((.aload_n 0), 1) := by decide +kernel
theorem dl_891 : decode code 891 = .ok ((.iload 4), 2) := by decide +kernel
theorem dl_893 : decode code 893 = .ok ((.iconst 1), 1) := by decide +kernel
theorem dl_894 : decode code 894 = .ok (.iadd, 1) := by decide +kernel
theorem dl_895 : decode code 895 = .ok (.iaload, 1) := by decide +kernel
theorem dl_896 : decode code 896 = .ok ((.aload_n 0), 1) := by decide +kernel
theorem dl_897 : decode code 897 = .ok ((.iload 4), 2) := by decide +kernel
theorem dl_899 : decode code 899 = .ok ((.iconst 2), 1) := by decide +kernel
theorem dl_900 : decode code 900 = .ok (.iadd, 1) := by decide +kernel
theorem dl_901 : decode code 901 = .ok (.iaload, 1) := by decide +kernel
theorem dl_902 : decode code 902 = .ok ((.invokevirtual 106), 3) := by decide +kernel
theorem dl_905 : decode code 905 = .ok ((.if_icmp .eq 538), 3) := by decide +kernel
theorem dl_908 : decode code 908 = .ok ((.iconst 0), 1) := by decide +kernel
theorem dl_909 : decode code 909 = .ok (.ireturn, 1) := by decide +kernel
theorem dl_910 : decode code 910 = .ok ((.aload_n 1), 1) := by decide +kernel
theorem dl_911 : decode code 911 = .ok ((.invokevirtual 107), 3) := by decide +kernel
theorem dl_914 : decode code 914 = .ok ((.aload_n 2), 1) := by decide +kernel
theorem dl_915 : decode code 915 = .ok ((.invokevirtual 110), 3) := by decide +kernel
theorem dl_918 : decode code 918 = .ok ((.if_icmp .eq 525), 3) := by decide +kernel
theorem dl_921 : decode code 921 = .ok ((.iconst 0), 1) := by decide +kernel
theorem dl_922 : decode code 922 = .ok (.ireturn, 1) := by decide +kernel
theorem dl_923 : decode code 923 = .ok ((.aload_n 1), 1) := by decide +kernel
theorem dl_924 : decode code 924 = .ok ((.aload_n 0), 1) := by decide +kernel
theorem dl_925 : decode code 925 = .ok ((.iload 4), 2) := by decide +kernel
theorem dl_927 : decode code 927 = .ok ((.iconst 1), 1) := by decide +kernel
