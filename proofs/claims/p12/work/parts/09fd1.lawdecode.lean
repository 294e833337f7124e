theorem dL_law__659 : decode cL_law_ 659 = .ok (.iadd, 1) := by decide +kernel
theorem dL_law__660 : decode cL_law_ 660 = .ok (.iaload, 1) := by decide +kernel
theorem dL_law__661 : decode cL_law_ 661 = .ok (.aload_n 0, 1) := by decide +kernel
theorem dL_law__662 : decode cL_law_ 662 = .ok (.iload 4, 2) := by decide +kernel
theorem dL_law__664 : decode cL_law_ 664 = .ok (.iconst 2, 1) := by decide +kernel
theorem dL_law__665 : decode cL_law_ 665 = .ok (.iadd, 1) := by decide +kernel
theorem dL_law__666 : decode cL_law_ 666 = .ok (.iaload, 1) := by decide +kernel
theorem dL_law__667 : decode cL_law_ 667 = .ok (.invokevirtual 160, 3) := by decide +kernel
theorem dL_law__670 : decode cL_law_ 670 = .ok (.istore 6, 2) := by decide +kernel
theorem dL_law__672 : decode cL_law_ 672 = .ok (.goto 943, 3) := by decide +kernel
theorem dL_law__675 : decode cL_law_ 675 = .ok (.aload_n 1, 1) := by decide +kernel
theorem dL_law__676 : decode cL_law_ 676 = .ok (.aload_n 0, 1) := by decide +kernel
theorem dL_law__677 : decode cL_law_ 677 = .ok (.iload 4, 2) := by decide +kernel
theorem dL_law__679 : decode cL_law_ 679 = .ok (.iconst 1, 1) := by decide +kernel
theorem dL_law__680 : decode cL_law_ 680 = .ok (.iadd, 1) := by decide +kernel
theorem dL_law__681 : decode cL_law_ 681 = .ok (.iaload, 1) := by decide +kernel
theorem dL_law__682 : decode cL_law_ 682 = .ok (.aload_n 0, 1) := by decide +kernel
theorem dL_law__683 : decode cL_law_ 683 = .ok (.iload 4, 2) := by decide +kernel
theorem dL_law__685 : decode cL_law_ 685 = .ok (.iconst 2, 1) := by decide +kernel
theorem dL_law__686 : decode cL_law_ 686 = .ok (.iadd, 1) := by decide +kernel
theorem dL_law__687 : decode cL_law_ 687 = .ok (.iaload, 1) := by decide +kernel
theorem dL_law__688 : decode cL_law_ 688 = .ok (.aload_n 0, 1) := by decide +kernel
theorem dL_law__689 : decode cL_law_ 689 = .ok (.iload 4, 2) := by decide +kernel
theorem dL_law__691 : decode cL_law_ 691 = .ok (.iconst 3, 1) := by decide +kernel
theorem dL_law__692 : decode cL_law_ 692 = .ok (.iadd, 1) := by decide +kernel
theorem dL_law__693 : decode cL_law_ 693 = .ok (.iaload, 1) := by decide +kernel
theorem dL_law__694 : decode cL_law_ 694 = .ok (.aload_n 0, 1) := by decide +kernel
theorem dL_law__695 : decode cL_law_ 695 = .ok (.iload 4, 2) := by decide +kernel
theorem dL_law__697 : decode cL_law_ 697 = .ok (.iconst 4, 1) := by decide +kernel
theorem dL_law__698 : decode cL_law_ 698 = .ok (.iadd, 1) := by decide +kernel
theorem dL_law__699 : decode cL_law_ 699 = .ok (.iaload, 1) := by decide +kernel
theorem dL_law__700 : decode cL_law_ 700 = .ok (.aload_n 0, 1) := by decide +kernel
theorem dL_law__701 : decode cL_law_ 701 = .ok (.iload 4, 2) := by decide +kernel
theorem dL_law__703 : decode cL_law_ 703 = .ok (.iconst 5, 1) := by decide +kernel
theorem dL_law__704 : decode cL_law_ 704 = .ok (.iadd, 1) := by decide +kernel
theorem dL_law__705 : decode cL_law_ 705 = .ok (.iaload, 1) := by decide +kernel
theorem dL_law__706 : decode cL_law_ 706 = .ok (.aload_n 0, 1) := by decide +kernel
theorem dL_law__707 : decode cL_law_ 707 = .ok (.iload 4, 2) := by decide +kernel
theorem dL_law__709 : decode cL_law_ 709 = .ok (.bipush 6, 2) := by decide +kernel
theorem dL_law__711 : decode cL_law_ 711 = .ok (.iadd, 1) := by decide +kernel
theorem dL_law__712 : decode cL_law_ 712 = .ok (.iaload, 1) := by decide +kernel
theorem dL_law__713 : decode cL_law_ 713 = .ok (.aload_n 0, 1) := by decide +kernel
theorem dL_law__714 : decode cL_law_ 714 = .ok (.iload 4, 2) := by decide +kernel
theorem dL_law__716 : decode cL_law_ 716 = .ok (.bipush 7, 2) := by decide +kernel
theorem dL_law__718 : decode cL_law_ 718 = .ok (.iadd, 1) := by decide +kernel
theorem dL_law__719 : decode cL_law_ 719 = .ok (.iaload, 1) := by decide +kernel
theorem dL_law__720 : decode cL_law_ 720 = .ok (.aload_n 0, 1) := by decide +kernel
theorem dL_law__721 : decode cL_law_ 721 = .ok (.iload 4, 2) := by decide +kernel
theorem dL_law__723 : decode cL_law_ 723 = .ok (.bipush 8, 2) := by decide +kernel
theorem dL_law__725 : decode cL_law_ 725 = .ok (.iadd, 1) := by decide +kernel
theorem dL_law__726 : decode cL_law_ 726 = .ok (.iaload, 1) := by decide +kernel
theorem dL_law__727 : decode cL_law_ 727 = .ok (.aload_n 3, 1) := by decide +kernel
theorem dL_law__728 : decode cL_law_ 728 = .ok (.invokestatic 161, 3) := by decide +kernel
theorem dL_law__731 : decode cL_law_ 731 = .ok (.istore 5, 2) := by decide +kernel
theorem dL_law__733 : decode cL_law_ 733 = .ok (.aload_n 2, 1) := by decide +kernel
theorem dL_law__734 : decode cL_law_ 734 = .ok (.aload_n 0, 1) := by decide +kernel
theorem dL_law__735 : decode cL_law_ 735 = .ok (.iload 4, 2) := by decide +kernel
theorem dL_law__737 : decode cL_law_ 737 = .ok (.iconst 1, 1) := by decide +kernel
theorem dL_law__738 : decode cL_law_ 738 = .ok (.iadd, 1) := by decide +kernel
theorem dL_law__739 : decode cL_law_ 739 = .ok (.iaload, 1) := by decide +kernel
theorem dL_law__740 : decode cL_law_ 740 = .ok (.aload_n 0, 1) := by decide +kernel
theorem dL_law__741 : decode cL_law_ 741 = .ok (.iload 4, 2) := by decide +kernel
theorem dL_law__743 : decode cL_law_ 743 = .ok (.iconst 2, 1) := by decide +kernel
theorem dL_law__744 : decode cL_law_ 744 = .ok (.iadd, 1) := by decide +kernel
theorem dL_law__745 : decode cL_law_ 745 = .ok (.iaload, 1) := by decide +kernel
theorem dL_law__746 : decode cL_law_ 746 = .ok (.aload_n 0, 1) := by decide +kernel
theorem dL_law__747 : decode cL_law_ 747 = .ok (.iload 4, 2) := by decide +kernel
theorem dL_law__749 : decode cL_law_ 749 = .ok (.iconst 3, 1) := by decide +kernel
theorem dL_law__750 : decode cL_law_ 750 = .ok (.iadd, 1) := by decide +kernel
theorem dL_law__751 : decode cL_law_ 751 = .ok (.iaload, 1) := by decide +kernel
theorem dL_law__752 : decode cL_law_ 752 = .ok (.aload_n 0, 1) := by decide +kernel
theorem dL_law__753 : decode cL_law_ 753 = .ok (.iload 4, 2) := by decide +kernel
theorem dL_law__755 : decode cL_law_ 755 = .ok (.iconst 4, 1) := by decide +kernel
theorem dL_law__756 : decode cL_law_ 756 = .ok (.iadd, 1) := by decide +kernel
theorem dL_law__757 : decode cL_law_ 757 = .ok (.iaload, 1) := by decide +kernel
theorem dL_law__758 : decode cL_law_ 758 = .ok (.aload_n 0, 1) := by decide +kernel
theorem dL_law__759 : decode cL_law_ 759 = .ok (.iload 4, 2) := by decide +kernel
theorem dL_law__761 : decode cL_law_ 761 = .ok (.iconst 5, 1) := by decide +kernel
theorem dL_law__762 : decode cL_law_ 762 = .ok (.iadd, 1) := by decide +kernel
theorem dL_law__763 : decode cL_law_ 763 = .ok (.iaload, 1) := by decide +kernel
theorem dL_law__764 : decode cL_law_ 764 = .ok (.aload_n 0, 1) := by decide +kernel
theorem dL_law__765 : decode cL_law_ 765 = .ok (.iload 4, 2) := by decide +kernel
theorem dL_law__767 : decode cL_law_ 767 = .ok (.bipush 6, 2) := by decide +kernel
theorem dL_law__769 : decode cL_law_ 769 = .ok (.iadd, 1) := by decide +kernel
theorem dL_law__770 : decode cL_law_ 770 = .ok (.iaload, 1) := by decide +kernel
theorem dL_law__771 : decode cL_law_ 771 = .ok (.aload_n 0, 1) := by decide +kernel
theorem dL_law__772 : decode cL_law_ 772 = .ok (.iload 4, 2) := by decide +kernel
theorem dL_law__774 : decode cL_law_ 774 = .ok (.bipush 7, 2) := by decide +kernel
theorem dL_law__776 : decode cL_law_ 776 = .ok (.iadd, 1) := by decide +kernel
theorem dL_law__777 : decode cL_law_ 777 = .ok (.iaload, 1) := by decide +kernel
theorem dL_law__778 : decode cL_law_ 778 = .ok (.aload_n 0, 1) := by decide +kernel
theorem dL_law__779 : decode cL_law_ 779 = .ok (.iload 4, 2) := by decide +kernel
theorem dL_law__781 : decode cL_law_ 781 = .ok (.bipush 8, 2) := by decide +kernel
theorem dL_law__783 : decode cL_law_ 783 = .ok (.iadd, 1) := by decide +kernel
theorem dL_law__784 : decode cL_law_ 784 = .ok (.iaload, 1) := by decide +kernel
theorem dL_law__785 : decode cL_law_ 785 = .ok (.invokevirtual 164, 3) := by decide +kernel
theorem dL_law__788 : decode cL_law_ 788 = .ok (.istore 6, 2) := by decide +kernel
theorem dL_law__790 : decode cL_law_ 790 = .ok (.goto 825, 3) := by decide +kernel
theorem dL_law__793 : decode cL_law_ 793 = .ok (.aload_n 1, 1) := by decide +kernel
theorem dL_law__794 : decode cL_law_ 794 = .ok (.aload_n 0, 1) := by decide +kernel
theorem dL_law__795 : decode cL_law_ 795 = .ok (.iload 4, 2) := by decide +kernel
theorem dL_law__797 : decode cL_law_ 797 = .ok (.iconst 1, 1) := by decide +kernel
theorem dL_law__798 : decode cL_law_ 798 = .ok (.iadd, 1) := by decide +kernel
theorem dL_law__799 : decode cL_law_ 799 = .ok (.iaload, 1) := by decide +kernel
theorem dL_law__800 : decode cL_law_ 800 = .ok (.aload_n 0, 1) := by decide +kernel
theorem dL_law__801 : decode cL_law_ 801 = .ok (.iload 4, 2) := by decide +kernel
theorem dL_law__803 : decode cL_law_ 803 = .ok (.iconst 2, 1) := by decide +kernel
theorem dL_law__804 : decode cL_law_ 804 = .ok (.iadd, 1) := by decide +kernel
theorem dL_law__805 : decode cL_law_ 805 = .ok (.iaload, 1) := by decide +kernel
theorem dL_law__806 : decode cL_law_ 806 = .ok (.aload_n 3, 1) := by decide +kernel
theorem dL_law__807 : decode cL_law_ 807 = .ok (.invokestatic 165, 3) := by decide +kernel
theorem dL_law__810 : decode cL_law_ 810 = .ok (.istore 5, 2) := by decide +kernel
theorem dL_law__812 : decode cL_law_ 812 = .ok (.aload_n 2, 1) := by decide +kernel
theorem dL_law__813 : decode cL_law_ 813 = .ok (.aload_n 0, 1) := by decide +kernel
theorem dL_law__814 : decode cL_law_ 814 = .ok (.iload 4, 2) := by decide +kernel
theorem dL_law__816 : decode cL_law_ 816 = .ok (.iconst 1, 1) := by decide +kernel
theorem dL_law__817 : decode cL_law_ 817 = .ok (.iadd, 1) := by decide +kernel
theorem dL_law__818 : decode cL_law_ 818 = .ok (.iaload, 1) := by decide +kernel
theorem dL_law__819 : decode cL_law_ 819 = .ok (.aload_n 0, 1) := by decide +kernel
theorem dL_law__820 : decode cL_law_ 820 = .ok (.iload 4, 2) := by decide +kernel
theorem dL_law__822 : decode cL_law_ 822 = .ok (.iconst 2, 1) := by decide +kernel
theorem dL_law__823 : decode cL_law_ 823 = .ok (.iadd, 1) := by decide +kernel
theorem dL_law__824 : decode cL_law_ 824 = .ok (.iaload, 1) := by decide +kernel
theorem dL_law__825 : decode cL_law_ 825 = .ok (.invokevirtual 167, 3) := by decide +kernel
theorem dL_law__828 : decode cL_law_ 828 = .ok (.istore 6, 2) := by decide +kernel
theorem dL_law__830 : decode cL_law_ 830 = .ok (.goto 785, 3) := by decide +kernel
theorem dL_law__833 : decode cL_law_ 833 = .ok (.aload_n 1, 1) := by decide +kernel
theorem dL_law__834 : decode cL_law_ 834 = .ok (.aload_n 0, 1) := by decide +kernel
theorem dL_law__835 : decode cL_law_ 835 = .ok (.iload 4, 2) := by decide +kernel
theorem dL_law__837 : decode cL_law_ 837 = .ok (.iconst 1, 1) := by decide +kernel
theorem dL_law__838 : decode cL_law_ 838 = .ok (.iadd, 1) := by decide +kernel
theorem dL_law__839 : decode cL_law_ 839 = .ok (.iaload, 1) := by decide +kernel
theorem dL_law__840 : decode cL_law_ 840 = .ok (.aload_n 0, 1) := by decide +kernel
theorem dL_law__841 : decode cL_law_ 841 = .ok (.iload 4, 2) := by decide +kernel
theorem dL_law__843 : decode cL_law_ 843 = .ok (.iconst 2, 1) := by decide +kernel
theorem dL_law__844 : decode cL_law_ 844 = .ok (.iadd, 1) := by decide +kernel
theorem dL_law__845 : decode cL_law_ 845 = .ok (.iaload, 1) := by decide +kernel
theorem dL_law__846 : decode cL_law_ 846 = .ok (.aload_n 3, 1) := by decide +kernel
theorem dL_law__847 : decode cL_law_ 847 = .ok (.invokestatic 168, 3) := by decide +kernel
theorem dL_law__850 : decode cL_law_ 850 = .ok (.istore 5, 2) := by decide +kernel
theorem dL_law__852 : decode cL_law_ 852 = .ok (.aload_n 2, 1) := by decide +kernel
theorem dL_law__853 : decode cL_law_ 853 = .ok (.aload_n 0, 1) := by decide +kernel
theorem dL_law__854 : decode cL_law_ 854 = .ok (.iload 4, 2) := by decide +kernel
theorem dL_law__856 : decode cL_law_ 856 = .ok (.iconst 1, 1) := by decide +kernel
theorem dL_law__857 : decode cL_law_ 857 = .ok (.iadd, 1) := by decide +kernel
theorem dL_law__858 : decode cL_law_ 858 = .ok (.iaload, 1) := by decide +kernel
theorem dL_law__859 : decode cL_law_ 859 = .ok (.aload_n 0, 1) := by decide +kernel
theorem dL_law__860 : decode cL_law_ 860 = .ok (.iload 4, 2) := by decide +kernel
theorem dL_law__862 : decode cL_law_ 862 = .ok (.iconst 2, 1) := by decide +kernel
theorem dL_law__863 : decode cL_law_ 863 = .ok (.iadd, 1) := by decide +kernel
theorem dL_law__864 : decode cL_law_ 864 = .ok (.iaload, 1) := by decide +kernel
theorem dL_law__865 : decode cL_law_ 865 = .ok (.invokevirtual 170, 3) := by decide +kernel
theorem dL_law__868 : decode cL_law_ 868 = .ok (.istore 6, 2) := by decide +kernel
theorem dL_law__870 : decode cL_law_ 870 = .ok (.goto 745, 3) := by decide +kernel
theorem dL_law__873 : decode cL_law_ 873 = .ok (.aload_n 1, 1) := by decide +kernel
theorem dL_law__874 : decode cL_law_ 874 = .ok (.aload_n 0, 1) := by decide +kernel
theorem dL_law__875 : decode cL_law_ 875 = .ok (.iload 4, 2) := by decide +kernel
theorem dL_law__877 : decode cL_law_ 877 = .ok (.iconst 1, 1) := by decide +kernel
theorem dL_law__878 : decode cL_law_ 878 = .ok (.iadd, 1) := by decide +kernel
theorem dL_law__879 : decode cL_law_ 879 = .ok (.iaload, 1) := by decide +kernel
theorem dL_law__880 : decode cL_law_ 880 = .ok (.aload_n 0, 1) := by decide +kernel
theorem dL_law__881 : decode cL_law_ 881 = .ok (.iload 4, 2) := by decide +kernel
theorem dL_law__883 : decode cL_law_ 883 = .ok (.iconst 2, 1) := by decide +kernel
theorem dL_law__884 : decode cL_law_ 884 = .ok (.iadd, 1) := by decide +kernel
theorem dL_law__885 : decode cL_law_ 885 = .ok (.iaload, 1) := by decide +kernel
theorem dL_law__886 : decode cL_law_ 886 = .ok (.aload_n 3, 1) := by decide +kernel
theorem dL_law__887 : decode cL_law_ 887 = .ok (.invokestatic 171, 3) := by decide +kernel
theorem dL_law__890 : decode cL_law_ 890 = .ok (.istore 5, 2) := by decide +kernel
theorem dL_law__892 : decode cL_law_ 892 = .ok (.aload_n 2, 1) := by decide +kernel
theorem dL_law__893 : decode cL_law_ 893 = .ok (.aload_n 0, 1) := by decide +kernel
theorem dL_law__894 : decode cL_law_ 894 = .ok (.iload 4, 2) := by decide +kernel
theorem dL_law__896 : decode cL_law_ 896 = .ok (.iconst 1, 1) := by decide +kernel
theorem dL_law__897 : decode cL_law_ 897 = .ok (.iadd, 1) := by decide +kernel
theorem dL_law__898 : decode cL_law_ 898 = .ok (.iaload, 1) := by decide +kernel
theorem dL_law__899 : decode cL_law_ 899 = .ok (.aload_n 0, 1) := by decide +kernel
theorem dL_law__900 : decode cL_law_ 900 = .ok (.iload 4, 2) := by decide +kernel
theorem dL_law__902 : decode cL_law_ 902 = .ok (.iconst 2, 1) := by decide +kernel
theorem dL_law__903 : decode cL_law_ 903 = .ok (.iadd, 1) := by decide +kernel
theorem dL_law__904 : decode cL_law_ 904 = .ok (.iaload, 1) := by decide +kernel
theorem dL_law__905 : decode cL_law_ 905 = .ok (.invokevirtual 173, 3) := by decide +kernel
theorem dL_law__908 : decode cL_law_ 908 = .ok (.istore 6, 2) := by decide +kernel
theorem dL_law__910 : decode cL_law_ 910 = .ok (.goto 705, 3) := by decide +kernel
theorem dL_law__913 : decode cL_law_ 913 = .ok (.aload_n 1, 1) := by decide +kernel
theorem dL_law__914 : decode cL_law_ 914 = .ok (.invokevirtual 174, 3) := by decide +kernel
theorem dL_law__917 : decode cL_law_ 917 = .ok (.pop, 1) := by decide +kernel
theorem dL_law__918 : decode cL_law_ 918 = .ok (.aload_n 2, 1) := by decide +kernel
theorem dL_law__919 : decode cL_law_ 919 = .ok (.invokevirtual 177, 3) := by decide +kernel
theorem dL_law__922 : decode cL_law_ 922 = .ok (.pop, 1) := by decide +kernel
theorem dL_law__923 : decode cL_law_ 923 = .ok (.goto 692, 3) := by decide +kernel
theorem dL_law__926 : decode cL_law_ 926 = .ok (.aload_n 1, 1) := by decide +kernel
theorem dL_law__927 : decode cL_law_ 927 = .ok (.aload_n 0, 1) := by decide +kernel
theorem dL_law__928 : decode cL_law_ 928 = .ok (.iload 4, 2) := by decide +kernel
theorem dL_law__930 : decode cL_law_ 930 = .ok (.iconst 1, 1) := by decide +kernel
theorem dL_law__931 : decode cL_law_ 931 = .ok (.iadd, 1) := by decide +kernel
theorem dL_law__932 : decode cL_law_ 932 = .ok (.iaload, 1) := by decide +kernel
theorem dL_law__933 : decode cL_law_ 933 = .ok (.aload_n 3, 1) := by decide +kernel
theorem dL_law__934 : decode cL_law_ 934 = .ok (.invokestatic 178, 3) := by decide +kernel
theorem dL_law__937 : decode cL_law_ 937 = .ok (.istore 5, 2) := by decide +kernel
theorem dL_law__939 : decode cL_law_ 939 = .ok (.aload_n 2, 1) := by decide +kernel
theorem dL_law__940 : decode cL_law_ 940 = .ok (.aload_n 0, 1) := by decide +kernel
theorem dL_law__941 : decode cL_law_ 941 = .ok (.iload 4, 2) := by decide +kernel
theorem dL_law__943 : decode cL_law_ 943 = .ok (.iconst 1, 1) := by decide +kernel
theorem dL_law__944 : decode cL_law_ 944 = .ok (.iadd, 1) := by decide +kernel
theorem dL_law__945 : decode cL_law_ 945 = .ok (.iaload, 1) := by decide +kernel
theorem dL_law__946 : decode cL_law_ 946 = .ok (.invokevirtual 180, 3) := by decide +kernel
theorem dL_law__949 : decode cL_law_ 949 = .ok (.istore 6, 2) := by decide +kernel
theorem dL_law__951 : decode cL_law_ 951 = .ok (.goto 664, 3) := by decide +kernel
theorem dL_law__954 : decode cL_law_ 954 = .ok (.aload_n 1, 1) := by decide +kernel
theorem dL_law__955 : decode cL_law_ 955 = .ok (.invokevirtual 181, 3) := by decide +kernel
theorem dL_law__958 : decode cL_law_ 958 = .ok (.pop, 1) := by decide +kernel
theorem dL_law__959 : decode cL_law_ 959 = .ok (.aload_n 2, 1) := by decide +kernel
theorem dL_law__960 : decode cL_law_ 960 = .ok (.invokevirtual 184, 3) := by decide +kernel
theorem dL_law__963 : decode cL_law_ 963 = .ok (.pop, 1) := by decide +kernel
theorem dL_law__964 : decode cL_law_ 964 = .ok (.goto 651, 3) := by decide +kernel
theorem dL_law__967 : decode cL_law_ 967 = .ok (.aload_n 1, 1) := by decide +kernel
theorem dL_law__968 : decode cL_law_ 968 = .ok (.aload_n 0, 1) := by decide +kernel
theorem dL_law__969 : decode cL_law_ 969 = .ok (.iload 4, 2) := by decide +kernel
theorem dL_law__971 : decode cL_law_ 971 = .ok (.iconst 1, 1) := by decide +kernel
theorem dL_law__972 : decode cL_law_ 972 = .ok (.iadd, 1) := by decide +kernel
theorem dL_law__973 : decode cL_law_ 973 = .ok (.iaload, 1) := by decide +kernel
theorem dL_law__974 : decode cL_law_ 974 = .ok (.aload_n 3, 1) := by decide +kernel
theorem dL_law__975 : decode cL_law_ 975 = .ok (.invokestatic 185, 3) := by decide +kernel
theorem dL_law__978 : decode cL_law_ 978 = .ok (.istore 5, 2) := by decide +kernel
theorem dL_law__980 : decode cL_law_ 980 = .ok (.aload_n 2, 1) := by decide +kernel
theorem dL_law__981 : decode cL_law_ 981 = .ok (.aload_n 0, 1) := by decide +kernel
theorem dL_law__982 : decode cL_law_ 982 = .ok (.iload 4, 2) := by decide +kernel
theorem dL_law__984 : decode cL_law_ 984 = .ok (.iconst 1, 1) := by decide +kernel
theorem dL_law__985 : decode cL_law_ 985 = .ok (.iadd, 1) := by decide +kernel
theorem dL_law__986 : decode cL_law_ 986 = .ok (.iaload, 1) := by decide +kernel
theorem dL_law__987 : decode cL_law_ 987 = .ok (.invokevirtual 187, 3) := by decide +kernel
theorem dL_law__990 : decode cL_law_ 990 = .ok (.istore 6, 2) := by decide +kernel
theorem dL_law__992 : decode cL_law_ 992 = .ok (.goto 623, 3) := by decide +kernel
theorem dL_law__995 : decode cL_law_ 995 = .ok (.aload_n 1, 1) := by decide +kernel
theorem dL_law__996 : decode cL_law_ 996 = .ok (.aload_n 0, 1) := by decide +kernel
theorem dL_law__997 : decode cL_law_ 997 = .ok (.iload 4, 2) := by decide +kernel
theorem dL_law__999 : decode cL_law_ 999 = .ok (.iconst 1, 1) := by decide +kernel
theorem dL_law__1000 : decode cL_law_ 1000 = .ok (.iadd, 1) := by decide +kernel
theorem dL_law__1001 : decode cL_law_ 1001 = .ok (.iaload, 1) := by decide +kernel
theorem dL_law__1002 : decode cL_law_ 1002 = .ok (.aload_n 3, 1) := by decide +kernel
theorem dL_law__1003 : decode cL_law_ 1003 = .ok (.invokestatic 188, 3) := by decide +kernel
theorem dL_law__1006 : decode cL_law_ 1006 = .ok (.istore 5, 2) := by decide +kernel
theorem dL_law__1008 : decode cL_law_ 1008 = .ok (.aload_n 2, 1) := by decide +kernel
theorem dL_law__1009 : decode cL_law_ 1009 = .ok (.aload_n 0, 1) := by decide +kernel
theorem dL_law__1010 : decode cL_law_ 1010 = .ok (.iload 4, 2) := by decide +kernel
theorem dL_law__1012 : decode cL_law_ 1012 = .ok (.iconst 1, 1) := by decide +kernel
theorem dL_law__1013 : decode cL_law_ 1013 = .ok (.iadd, 1) := by decide +kernel
theorem dL_law__1014 : decode cL_law_ 1014 = .ok (.iaload, 1) := by decide +kernel
theorem dL_law__1015 : decode cL_law_ 1015 = .ok (.invokevirtual 190, 3) := by decide +kernel
theorem dL_law__1018 : decode cL_law_ 1018 = .ok (.istore 6, 2) := by decide +kernel
theorem dL_law__1020 : decode cL_law_ 1020 = .ok (.goto 595, 3) := by decide +kernel
theorem dL_law__1023 : decode cL_law_ 1023 = .ok (.aload_n 1, 1) := by decide +kernel
theorem dL_law__1024 : decode cL_law_ 1024 = .ok (.aload_n 0, 1) := by decide +kernel
theorem dL_law__1025 : decode cL_law_ 1025 = .ok (.iload 4, 2) := by decide +kernel
theorem dL_law__1027 : decode cL_law_ 1027 = .ok (.iconst 1, 1) := by decide +kernel
theorem dL_law__1028 : decode cL_law_ 1028 = .ok (.iadd, 1) := by decide +kernel
theorem dL_law__1029 : decode cL_law_ 1029 = .ok (.iaload, 1) := by decide +kernel
theorem dL_law__1030 : decode cL_law_ 1030 = .ok (.aload_n 3, 1) := by decide +kernel
theorem dL_law__1031 : decode cL_law_ 1031 = .ok (.invokestatic 191, 3) := by decide +kernel
theorem dL_law__1034 : decode cL_law_ 1034 = .ok (.istore 5, 2) := by decide +kernel
theorem dL_law__1036 : decode cL_law_ 1036 = .ok (.aload_n 2, 1) := by decide +kernel
theorem dL_law__1037 : decode cL_law_ 1037 = .ok (.aload_n 0, 1) := by decide +kernel
theorem dL_law__1038 : decode cL_law_ 1038 = .ok (.iload 4, 2) := by decide +kernel
theorem dL_law__1040 : decode cL_law_ 1040 = .ok (.iconst 1, 1) := by decide +kernel
theorem dL_law__1041 : decode cL_law_ 1041 = .ok (.iadd, 1) := by decide +kernel
theorem dL_law__1042 : decode cL_law_ 1042 = .ok (.iaload, 1) := by decide +kernel
theorem dL_law__1043 : decode cL_law_ 1043 = .ok (.invokevirtual 193, 3) := by decide +kernel
theorem dL_law__1046 : decode cL_law_ 1046 = .ok (.istore 6, 2) := by decide +kernel
theorem dL_law__1048 : decode cL_law_ 1048 = .ok (.goto 567, 3) := by decide +kernel
theorem dL_law__1051 : decode cL_law_ 1051 = .ok (.aload_n 1, 1) := by decide +kernel
theorem dL_law__1052 : decode cL_law_ 1052 = .ok (.aload_n 0, 1) := by decide +kernel
theorem dL_law__1053 : decode cL_law_ 1053 = .ok (.iload 4, 2) := by decide +kernel
theorem dL_law__1055 : decode cL_law_ 1055 = .ok (.iconst 1, 1) := by decide +kernel
theorem dL_law__1056 : decode cL_law_ 1056 = .ok (.iadd, 1) := by decide +kernel
theorem dL_law__1057 : decode cL_law_ 1057 = .ok (.iaload, 1) := by decide +kernel
theorem dL_law__1058 : decode cL_law_ 1058 = .ok (.aload_n 3, 1) := by decide +kernel
theorem dL_law__1059 : decode cL_law_ 1059 = .ok (.invokestatic 194, 3) := by decide +kernel
theorem dL_law__1062 : decode cL_law_ 1062 = .ok (.istore 5, 2) := by decide +kernel
theorem dL_law__1064 : decode cL_law_ 1064 = .ok (.aload_n 2, 1) := by decide +kernel
theorem dL_law__1065 : decode cL_law_ 1065 = .ok (.aload_n 0, 1) := by decide +kernel
theorem dL_law__1066 : decode cL_law_ 1066 = .ok (.iload 4, 2) := by decide +kernel
theorem dL_law__1068 : decode cL_law_ 1068 = .ok (.iconst 1, 1) := by decide +kernel
theorem dL_law__1069 : decode cL_law_ 1069 = .ok (.iadd, 1) := by decide +kernel
theorem dL_law__1070 : decode cL_law_ 1070 = .ok (.iaload, 1) := by decide +kernel
theorem dL_law__1071 : decode cL_law_ 1071 = .ok (.invokevirtual 196, 3) := by decide +kernel
theorem dL_law__1074 : decode cL_law_ 1074 = .ok (.istore 6, 2) := by decide +kernel
theorem dL_law__1076 : decode cL_law_ 1076 = .ok (.goto 539, 3) := by decide +kernel
theorem dL_law__1079 : decode cL_law_ 1079 = .ok (.aload_n 1, 1) := by decide +kernel
theorem dL_law__1080 : decode cL_law_ 1080 = .ok (.aload_n 0, 1) := by decide +kernel
theorem dL_law__1081 : decode cL_law_ 1081 = .ok (.iload 4, 2) := by decide +kernel
theorem dL_law__1083 : decode cL_law_ 1083 = .ok (.iconst 1, 1) := by decide +kernel
theorem dL_law__1084 : decode cL_law_ 1084 = .ok (.iadd, 1) := by decide +kernel
theorem dL_law__1085 : decode cL_law_ 1085 = .ok (.iaload, 1) := by decide +kernel
theorem dL_law__1086 : decode cL_law_ 1086 = .ok (.aload_n 3, 1) := by decide +kernel
theorem dL_law__1087 : decode cL_law_ 1087 = .ok (.invokestatic 197, 3) := by decide +kernel
theorem dL_law__1090 : decode cL_law_ 1090 = .ok (.istore 5, 2) := by decide +kernel
theorem dL_law__1092 : decode cL_law_ 1092 = .ok (.aload_n 2, 1) := by decide +kernel
theorem dL_law__1093 : decode cL_law_ 1093 = .ok (.aload_n 0, 1) := by decide +kernel
theorem dL_law__1094 : decode cL_law_ 1094 = .ok (.iload 4, 2) := by decide +kernel
theorem dL_law__1096 : decode cL_law_ 1096 = .ok (.iconst 1, 1) := by decide +kernel
theorem dL_law__1097 : decode cL_law_ 1097 = .ok (.iadd, 1) := by decide +kernel
theorem dL_law__1098 : decode cL_law_ 1098 = .ok (.iaload, 1) := by decide +kernel
theorem dL_law__1099 : decode cL_law_ 1099 = .ok (.invokevirtual 199, 3) := by decide +kernel
theorem dL_law__1102 : decode cL_law_ 1102 = .ok (.istore 6, 2) := by decide +kernel
theorem dL_law__1104 : decode cL_law_ 1104 = .ok (.goto 511, 3) := by decide +kernel
theorem dL_law__1107 : decode cL_law_ 1107 = .ok (.aload_n 1, 1) := by decide +kernel
theorem dL_law__1108 : decode cL_law_ 1108 = .ok (.aload_n 0, 1) := by decide +kernel
theorem dL_law__1109 : decode cL_law_ 1109 = .ok (.iload 4, 2) := by decide +kernel
theorem dL_law__1111 : decode cL_law_ 1111 = .ok (.iconst 1, 1) := by decide +kernel
theorem dL_law__1112 : decode cL_law_ 1112 = .ok (.iadd, 1) := by decide +kernel
theorem dL_law__1113 : decode cL_law_ 1113 = .ok (.iaload, 1) := by decide +kernel
theorem dL_law__1114 : decode cL_law_ 1114 = .ok (.aload_n 0, 1) := by decide +kernel
theorem dL_law__1115 : decode cL_law_ 1115 = .ok (.iload 4, 2) := by decide +kernel
theorem dL_law__1117 : decode cL_law_ 1117 = .ok (.iconst 2, 1) := by decide +kernel
theorem dL_law__1118 : decode cL_law_ 1118 = .ok (.iadd, 1) := by decide +kernel
theorem dL_law__1119 : decode cL_law_ 1119 = .ok (.iaload, 1) := by decide +kernel
theorem dL_law__1120 : decode cL_law_ 1120 = .ok (.aload_n 0, 1) := by decide +kernel
theorem dL_law__1121 : decode cL_law_ 1121 = .ok (.iload 4, 2) := by decide +kernel
theorem dL_law__1123 : decode cL_law_ 1123 = .ok (.iconst 3, 1) := by decide +kernel
theorem dL_law__1124 : decode cL_law_ 1124 = .ok (.iadd, 1) := by decide +kernel
theorem dL_law__1125 : decode cL_law_ 1125 = .ok (.iaload, 1) := by decide +kernel
theorem dL_law__1126 : decode cL_law_ 1126 = .ok (.aload_n 0, 1) := by decide +kernel
theorem dL_law__1127 : decode cL_law_ 1127 = .ok (.iload 4, 2) := by decide +kernel
theorem dL_law__1129 : decode cL_law_ 1129 = .ok (.iconst 4, 1) := by decide +kernel
theorem dL_law__1130 : decode cL_law_ 1130 = .ok (.iadd, 1) := by decide +kernel
theorem dL_law__1131 : decode cL_law_ 1131 = .ok (.iaload, 1) := by decide +kernel
theorem dL_law__1132 : decode cL_law_ 1132 = .ok (.aload_n 3, 1) := by decide +kernel
theorem dL_law__1133 : decode cL_law_ 1133 = .ok (.invokestatic 200, 3) := by decide +kernel
theorem dL_law__1136 : decode cL_law_ 1136 = .ok (.istore 5, 2) := by decide +kernel
theorem dL_law__1138 : decode cL_law_ 1138 = .ok (.aload_n 2, 1) := by decide +kernel
theorem dL_law__1139 : decode cL_law_ 1139 = .ok (.aload_n 0, 1) := by decide +kernel
theorem dL_law__1140 : decode cL_law_ 1140 = .ok (.iload 4, 2) := by decide +kernel
theorem dL_law__1142 : decode cL_law_ 1142 = .ok (.iconst 1, 1) := by decide +kernel
theorem dL_law__1143 : decode cL_law_ 1143 = .ok (.iadd, 1) := by decide +kernel
theorem dL_law__1144 : decode cL_law_ 1144 = .ok (.iaload, 1) := by decide +kernel
