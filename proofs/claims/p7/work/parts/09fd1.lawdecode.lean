theorem dL_law__649 : decode cL_law_ 649 = .ok (.iload 4, 2) := by decide +kernel
theorem dL_law__651 : decode cL_law_ 651 = .ok (.iconst 1, 1) := by decide +kernel
theorem dL_law__652 : decode cL_law_ 652 = .ok (.iadd, 1) := by decide +kernel
theorem dL_law__653 : decode cL_law_ 653 = .ok (.iaload, 1) := by decide +kernel
theorem dL_law__654 : decode cL_law_ 654 = .ok (.aload_n 0, 1) := by decide +kernel
theorem dL_law__655 : decode cL_law_ 655 = .ok (.iload 4, 2) := by decide +kernel
theorem dL_law__657 : decode cL_law_ 657 = .ok (.iconst 2, 1) := by decide +kernel
theorem dL_law__658 : decode cL_law_ 658 = .ok (.iadd, 1) := by decide +kernel
theorem dL_law__659 : decode cL_law_ 659 = .ok (.iaload, 1) := by decide +kernel
theorem dL_law__660 : decode cL_law_ 660 = .ok (.aload_n 0, 1) := by decide +kernel
theorem dL_law__661 : decode cL_law_ 661 = .ok (.iload 4, 2) := by decide +kernel
theorem dL_law__663 : decode cL_law_ 663 = .ok (.iconst 3, 1) := by decide +kernel
theorem dL_law__664 : decode cL_law_ 664 = .ok (.iadd, 1) := by decide +kernel
theorem dL_law__665 : decode cL_law_ 665 = .ok (.iaload, 1) := by decide +kernel
theorem dL_law__666 : decode cL_law_ 666 = .ok (.aload_n 0, 1) := by decide +kernel
theorem dL_law__667 : decode cL_law_ 667 = .ok (.iload 4, 2) := by decide +kernel
theorem dL_law__669 : decode cL_law_ 669 = .ok (.iconst 4, 1) := by decide +kernel
theorem dL_law__670 : decode cL_law_ 670 = .ok (.iadd, 1) := by decide +kernel
theorem dL_law__671 : decode cL_law_ 671 = .ok (.iaload, 1) := by decide +kernel
theorem dL_law__672 : decode cL_law_ 672 = .ok (.aload_n 0, 1) := by decide +kernel
theorem dL_law__673 : decode cL_law_ 673 = .ok (.iload 4, 2) := by decide +kernel
theorem dL_law__675 : decode cL_law_ 675 = .ok (.iconst 5, 1) := by decide +kernel
theorem dL_law__676 : decode cL_law_ 676 = .ok (.iadd, 1) := by decide +kernel
theorem dL_law__677 : decode cL_law_ 677 = .ok (.iaload, 1) := by decide +kernel
theorem dL_law__678 : decode cL_law_ 678 = .ok (.aload_n 0, 1) := by decide +kernel
theorem dL_law__679 : decode cL_law_ 679 = .ok (.iload 4, 2) := by decide +kernel
theorem dL_law__681 : decode cL_law_ 681 = .ok (.bipush 6, 2) := by decide +kernel
theorem dL_law__683 : decode cL_law_ 683 = .ok (.iadd, 1) := by decide +kernel
theorem dL_law__684 : decode cL_law_ 684 = .ok (.iaload, 1) := by decide +kernel
theorem dL_law__685 : decode cL_law_ 685 = .ok (.aload_n 0, 1) := by decide +kernel
theorem dL_law__686 : decode cL_law_ 686 = .ok (.iload 4, 2) := by decide +kernel
theorem dL_law__688 : decode cL_law_ 688 = .ok (.bipush 7, 2) := by decide +kernel
theorem dL_law__690 : decode cL_law_ 690 = .ok (.iadd, 1) := by decide +kernel
theorem dL_law__691 : decode cL_law_ 691 = .ok (.iaload, 1) := by decide +kernel
theorem dL_law__692 : decode cL_law_ 692 = .ok (.aload_n 0, 1) := by decide +kernel
theorem dL_law__693 : decode cL_law_ 693 = .ok (.iload 4, 2) := by decide +kernel
theorem dL_law__695 : decode cL_law_ 695 = .ok (.bipush 8, 2) := by decide +kernel
theorem dL_law__697 : decode cL_law_ 697 = .ok (.iadd, 1) := by decide +kernel
theorem dL_law__698 : decode cL_law_ 698 = .ok (.iaload, 1) := by decide +kernel
theorem dL_law__699 : decode cL_law_ 699 = .ok (.aload_n 3, 1) := by decide +kernel
theorem dL_law__700 : decode cL_law_ 700 = .ok (.invokestatic 158, 3) := by decide +kernel
theorem dL_law__703 : decode cL_law_ 703 = .ok (.istore 5, 2) := by decide +kernel
theorem dL_law__705 : decode cL_law_ 705 = .ok (.aload_n 2, 1) := by decide +kernel
theorem dL_law__706 : decode cL_law_ 706 = .ok (.aload_n 0, 1) := by decide +kernel
theorem dL_law__707 : decode cL_law_ 707 = .ok (.iload 4, 2) := by decide +kernel
theorem dL_law__709 : decode cL_law_ 709 = .ok (.iconst 1, 1) := by decide +kernel
theorem dL_law__710 : decode cL_law_ 710 = .ok (.iadd, 1) := by decide +kernel
theorem dL_law__711 : decode cL_law_ 711 = .ok (.iaload, 1) := by decide +kernel
theorem dL_law__712 : decode cL_law_ 712 = .ok (.aload_n 0, 1) := by decide +kernel
theorem dL_law__713 : decode cL_law_ 713 = .ok (.iload 4, 2) := by decide +kernel
theorem dL_law__715 : decode cL_law_ 715 = .ok (.iconst 2, 1) := by decide +kernel
theorem dL_law__716 : decode cL_law_ 716 = .ok (.iadd, 1) := by decide +kernel
theorem dL_law__717 : decode cL_law_ 717 = .ok (.iaload, 1) := by decide +kernel
theorem dL_law__718 : decode cL_law_ 718 = .ok (.aload_n 0, 1) := by decide +kernel
theorem dL_law__719 : decode cL_law_ 719 = .ok (.iload 4, 2) := by decide +kernel
theorem dL_law__721 : decode cL_law_ 721 = .ok (.iconst 3, 1) := by decide +kernel
theorem dL_law__722 : decode cL_law_ 722 = .ok (.iadd, 1) := by decide +kernel
theorem dL_law__723 : decode cL_law_ 723 = .ok (.iaload, 1) := by decide +kernel
theorem dL_law__724 : decode cL_law_ 724 = .ok (.aload_n 0, 1) := by decide +kernel
theorem dL_law__725 : decode cL_law_ 725 = .ok (.iload 4, 2) := by decide +kernel
theorem dL_law__727 : decode cL_law_ 727 = .ok (.iconst 4, 1) := by decide +kernel
theorem dL_law__728 : decode cL_law_ 728 = .ok (.iadd, 1) := by decide +kernel
theorem dL_law__729 : decode cL_law_ 729 = .ok (.iaload, 1) := by decide +kernel
theorem dL_law__730 : decode cL_law_ 730 = .ok (.aload_n 0, 1) := by decide +kernel
theorem dL_law__731 : decode cL_law_ 731 = .ok (.iload 4, 2) := by decide +kernel
theorem dL_law__733 : decode cL_law_ 733 = .ok (.iconst 5, 1) := by decide +kernel
theorem dL_law__734 : decode cL_law_ 734 = .ok (.iadd, 1) := by decide +kernel
theorem dL_law__735 : decode cL_law_ 735 = .ok (.iaload, 1) := by decide +kernel
theorem dL_law__736 : decode cL_law_ 736 = .ok (.aload_n 0, 1) := by decide +kernel
theorem dL_law__737 : decode cL_law_ 737 = .ok (.iload 4, 2) := by decide +kernel
theorem dL_law__739 : decode cL_law_ 739 = .ok (.bipush 6, 2) := by decide +kernel
theorem dL_law__741 : decode cL_law_ 741 = .ok (.iadd, 1) := by decide +kernel
theorem dL_law__742 : decode cL_law_ 742 = .ok (.iaload, 1) := by decide +kernel
theorem dL_law__743 : decode cL_law_ 743 = .ok (.aload_n 0, 1) := by decide +kernel
theorem dL_law__744 : decode cL_law_ 744 = .ok (.iload 4, 2) := by decide +kernel
theorem dL_law__746 : decode cL_law_ 746 = .ok (.bipush 7, 2) := by decide +kernel
theorem dL_law__748 : decode cL_law_ 748 = .ok (.iadd, 1) := by decide +kernel
theorem dL_law__749 : decode cL_law_ 749 = .ok (.iaload, 1) := by decide +kernel
theorem dL_law__750 : decode cL_law_ 750 = .ok (.aload_n 0, 1) := by decide +kernel
theorem dL_law__751 : decode cL_law_ 751 = .ok (.iload 4, 2) := by decide +kernel
theorem dL_law__753 : decode cL_law_ 753 = .ok (.bipush 8, 2) := by decide +kernel
theorem dL_law__755 : decode cL_law_ 755 = .ok (.iadd, 1) := by decide +kernel
theorem dL_law__756 : decode cL_law_ 756 = .ok (.iaload, 1) := by decide +kernel
theorem dL_law__757 : decode cL_law_ 757 = .ok (.invokevirtual 161, 3) := by decide +kernel
theorem dL_law__760 : decode cL_law_ 760 = .ok (.istore 6, 2) := by decide +kernel
theorem dL_law__762 : decode cL_law_ 762 = .ok (.goto 825, 3) := by decide +kernel
theorem dL_law__765 : decode cL_law_ 765 = .ok (.aload_n 1, 1) := by decide +kernel
theorem dL_law__766 : decode cL_law_ 766 = .ok (.aload_n 0, 1) := by decide +kernel
theorem dL_law__767 : decode cL_law_ 767 = .ok (.iload 4, 2) := by decide +kernel
theorem dL_law__769 : decode cL_law_ 769 = .ok (.iconst 1, 1) := by decide +kernel
theorem dL_law__770 : decode cL_law_ 770 = .ok (.iadd, 1) := by decide +kernel
theorem dL_law__771 : decode cL_law_ 771 = .ok (.iaload, 1) := by decide +kernel
theorem dL_law__772 : decode cL_law_ 772 = .ok (.aload_n 0, 1) := by decide +kernel
theorem dL_law__773 : decode cL_law_ 773 = .ok (.iload 4, 2) := by decide +kernel
theorem dL_law__775 : decode cL_law_ 775 = .ok (.iconst 2, 1) := by decide +kernel
theorem dL_law__776 : decode cL_law_ 776 = .ok (.iadd, 1) := by decide +kernel
theorem dL_law__777 : decode cL_law_ 777 = .ok (.iaload, 1) := by decide +kernel
theorem dL_law__778 : decode cL_law_ 778 = .ok (.aload_n 3, 1) := by decide +kernel
theorem dL_law__779 : decode cL_law_ 779 = .ok (.invokestatic 162, 3) := by decide +kernel
theorem dL_law__782 : decode cL_law_ 782 = .ok (.istore 5, 2) := by decide +kernel
theorem dL_law__784 : decode cL_law_ 784 = .ok (.aload_n 2, 1) := by decide +kernel
theorem dL_law__785 : decode cL_law_ 785 = .ok (.aload_n 0, 1) := by decide +kernel
theorem dL_law__786 : decode cL_law_ 786 = .ok (.iload 4, 2) := by decide +kernel
theorem dL_law__788 : decode cL_law_ 788 = .ok (.iconst 1, 1) := by decide +kernel
theorem dL_law__789 : decode cL_law_ 789 = .ok (.iadd, 1) := by decide +kernel
theorem dL_law__790 : decode cL_law_ 790 = .ok (.iaload, 1) := by decide +kernel
theorem dL_law__791 : decode cL_law_ 791 = .ok (.aload_n 0, 1) := by decide +kernel
theorem dL_law__792 : decode cL_law_ 792 = .ok (.iload 4, 2) := by decide +kernel
theorem dL_law__794 : decode cL_law_ 794 = .ok (.iconst 2, 1) := by decide +kernel
theorem dL_law__795 : decode cL_law_ 795 = .ok (.iadd, 1) := by decide +kernel
theorem dL_law__796 : decode cL_law_ 796 = .ok (.iaload, 1) := by decide +kernel
theorem dL_law__797 : decode cL_law_ 797 = .ok (.invokevirtual 164, 3) := by decide +kernel
theorem dL_law__800 : decode cL_law_ 800 = .ok (.istore 6, 2) := by decide +kernel
theorem dL_law__802 : decode cL_law_ 802 = .ok (.goto 785, 3) := by decide +kernel
theorem dL_law__805 : decode cL_law_ 805 = .ok (.aload_n 1, 1) := by decide +kernel
theorem dL_law__806 : decode cL_law_ 806 = .ok (.aload_n 0, 1) := by decide +kernel
theorem dL_law__807 : decode cL_law_ 807 = .ok (.iload 4, 2) := by decide +kernel
theorem dL_law__809 : decode cL_law_ 809 = .ok (.iconst 1, 1) := by decide +kernel
theorem dL_law__810 : decode cL_law_ 810 = .ok (.iadd, 1) := by decide +kernel
theorem dL_law__811 : decode cL_law_ 811 = .ok (.iaload, 1) := by decide +kernel
theorem dL_law__812 : decode cL_law_ 812 = .ok (.aload_n 0, 1) := by decide +kernel
theorem dL_law__813 : decode cL_law_ 813 = .ok (.iload 4, 2) := by decide +kernel
theorem dL_law__815 : decode cL_law_ 815 = .ok (.iconst 2, 1) := by decide +kernel
theorem dL_law__816 : decode cL_law_ 816 = .ok (.iadd, 1) := by decide +kernel
theorem dL_law__817 : decode cL_law_ 817 = .ok (.iaload, 1) := by decide +kernel
theorem dL_law__818 : decode cL_law_ 818 = .ok (.aload_n 3, 1) := by decide +kernel
theorem dL_law__819 : decode cL_law_ 819 = .ok (.invokestatic 165, 3) := by decide +kernel
theorem dL_law__822 : decode cL_law_ 822 = .ok (.istore 5, 2) := by decide +kernel
theorem dL_law__824 : decode cL_law_ 824 = .ok (.aload_n 2, 1) := by decide +kernel
theorem dL_law__825 : decode cL_law_ 825 = .ok (.aload_n 0, 1) := by decide +kernel
theorem dL_law__826 : decode cL_law_ 826 = .ok (.iload 4, 2) := by decide +kernel
theorem dL_law__828 : decode cL_law_ 828 = .ok (.iconst 1, 1) := by decide +kernel
theorem dL_law__829 : decode cL_law_ 829 = .ok (.iadd, 1) := by decide +kernel
theorem dL_law__830 : decode cL_law_ 830 = .ok (.iaload, 1) := by decide +kernel
theorem dL_law__831 : decode cL_law_ 831 = .ok (.aload_n 0, 1) := by decide +kernel
theorem dL_law__832 : decode cL_law_ 832 = .ok (.iload 4, 2) := by decide +kernel
theorem dL_law__834 : decode cL_law_ 834 = .ok (.iconst 2, 1) := by decide +kernel
theorem dL_law__835 : decode cL_law_ 835 = .ok (.iadd, 1) := by decide +kernel
theorem dL_law__836 : decode cL_law_ 836 = .ok (.iaload, 1) := by decide +kernel
theorem dL_law__837 : decode cL_law_ 837 = .ok (.invokevirtual 167, 3) := by decide +kernel
theorem dL_law__840 : decode cL_law_ 840 = .ok (.istore 6, 2) := by decide +kernel
theorem dL_law__842 : decode cL_law_ 842 = .ok (.goto 745, 3) := by decide +kernel
theorem dL_law__845 : decode cL_law_ 845 = .ok (.aload_n 1, 1) := by decide +kernel
theorem dL_law__846 : decode cL_law_ 846 = .ok (.aload_n 0, 1) := by decide +kernel
theorem dL_law__847 : decode cL_law_ 847 = .ok (.iload 4, 2) := by decide +kernel
theorem dL_law__849 : decode cL_law_ 849 = .ok (.iconst 1, 1) := by decide +kernel
theorem dL_law__850 : decode cL_law_ 850 = .ok (.iadd, 1) := by decide +kernel
theorem dL_law__851 : decode cL_law_ 851 = .ok (.iaload, 1) := by decide +kernel
theorem dL_law__852 : decode cL_law_ 852 = .ok (.aload_n 0, 1) := by decide +kernel
theorem dL_law__853 : decode cL_law_ 853 = .ok (.iload 4, 2) := by decide +kernel
theorem dL_law__855 : decode cL_law_ 855 = .ok (.iconst 2, 1) := by decide +kernel
theorem dL_law__856 : decode cL_law_ 856 = .ok (.iadd, 1) := by decide +kernel
theorem dL_law__857 : decode cL_law_ 857 = .ok (.iaload, 1) := by decide +kernel
theorem dL_law__858 : decode cL_law_ 858 = .ok (.aload_n 3, 1) := by decide +kernel
theorem dL_law__859 : decode cL_law_ 859 = .ok (.invokestatic 168, 3) := by decide +kernel
theorem dL_law__862 : decode cL_law_ 862 = .ok (.istore 5, 2) := by decide +kernel
theorem dL_law__864 : decode cL_law_ 864 = .ok (.aload_n 2, 1) := by decide +kernel
theorem dL_law__865 : decode cL_law_ 865 = .ok (.aload_n 0, 1) := by decide +kernel
theorem dL_law__866 : decode cL_law_ 866 = .ok (.iload 4, 2) := by decide +kernel
theorem dL_law__868 : decode cL_law_ 868 = .ok (.iconst 1, 1) := by decide +kernel
theorem dL_law__869 : decode cL_law_ 869 = .ok (.iadd, 1) := by decide +kernel
theorem dL_law__870 : decode cL_law_ 870 = .ok (.iaload, 1) := by decide +kernel
theorem dL_law__871 : decode cL_law_ 871 = .ok (.aload_n 0, 1) := by decide +kernel
theorem dL_law__872 : decode cL_law_ 872 = .ok (.iload 4, 2) := by decide +kernel
theorem dL_law__874 : decode cL_law_ 874 = .ok (.iconst 2, 1) := by decide +kernel
theorem dL_law__875 : decode cL_law_ 875 = .ok (.iadd, 1) := by decide +kernel
theorem dL_law__876 : decode cL_law_ 876 = .ok (.iaload, 1) := by decide +kernel
theorem dL_law__877 : decode cL_law_ 877 = .ok (.invokevirtual 170, 3) := by decide +kernel
theorem dL_law__880 : decode cL_law_ 880 = .ok (.istore 6, 2) := by decide +kernel
theorem dL_law__882 : decode cL_law_ 882 = .ok (.goto 705, 3) := by decide +kernel
theorem dL_law__885 : decode cL_law_ 885 = .ok (.aload_n 1, 1) := by decide +kernel
theorem dL_law__886 : decode cL_law_ 886 = .ok (.invokevirtual 171, 3) := by decide +kernel
theorem dL_law__889 : decode cL_law_ 889 = .ok (.pop, 1) := by decide +kernel
theorem dL_law__890 : decode cL_law_ 890 = .ok (.aload_n 2, 1) := by decide +kernel
theorem dL_law__891 : decode cL_law_ 891 = .ok (.invokevirtual 174, 3) := by decide +kernel
theorem dL_law__894 : decode cL_law_ 894 = .ok (.pop, 1) := by decide +kernel
theorem dL_law__895 : decode cL_law_ 895 = .ok (.goto 692, 3) := by decide +kernel
theorem dL_law__898 : decode cL_law_ 898 = .ok (.aload_n 1, 1) := by decide +kernel
theorem dL_law__899 : decode cL_law_ 899 = .ok (.aload_n 0, 1) := by decide +kernel
theorem dL_law__900 : decode cL_law_ 900 = .ok (.iload 4, 2) := by decide +kernel
theorem dL_law__902 : decode cL_law_ 902 = .ok (.iconst 1, 1) := by decide +kernel
theorem dL_law__903 : decode cL_law_ 903 = .ok (.iadd, 1) := by decide +kernel
theorem dL_law__904 : decode cL_law_ 904 = .ok (.iaload, 1) := by decide +kernel
theorem dL_law__905 : decode cL_law_ 905 = .ok (.aload_n 3, 1) := by decide +kernel
theorem dL_law__906 : decode cL_law_ 906 = .ok (.invokestatic 175, 3) := by decide +kernel
theorem dL_law__909 : decode cL_law_ 909 = .ok (.istore 5, 2) := by decide +kernel
theorem dL_law__911 : decode cL_law_ 911 = .ok (.aload_n 2, 1) := by decide +kernel
theorem dL_law__912 : decode cL_law_ 912 = .ok (.aload_n 0, 1) := by decide +kernel
theorem dL_law__913 : decode cL_law_ 913 = .ok (.iload 4, 2) := by decide +kernel
theorem dL_law__915 : decode cL_law_ 915 = .ok (.iconst 1, 1) := by decide +kernel
theorem dL_law__916 : decode cL_law_ 916 = .ok (.iadd, 1) := by decide +kernel
theorem dL_law__917 : decode cL_law_ 917 = .ok (.iaload, 1) := by decide +kernel
theorem dL_law__918 : decode cL_law_ 918 = .ok (.invokevirtual 177, 3) := by decide +kernel
theorem dL_law__921 : decode cL_law_ 921 = .ok (.istore 6, 2) := by decide +kernel
theorem dL_law__923 : decode cL_law_ 923 = .ok (.goto 664, 3) := by decide +kernel
theorem dL_law__926 : decode cL_law_ 926 = .ok (.aload_n 1, 1) := by decide +kernel
theorem dL_law__927 : decode cL_law_ 927 = .ok (.invokevirtual 178, 3) := by decide +kernel
theorem dL_law__930 : decode cL_law_ 930 = .ok (.pop, 1) := by decide +kernel
theorem dL_law__931 : decode cL_law_ 931 = .ok (.aload_n 2, 1) := by decide +kernel
theorem dL_law__932 : decode cL_law_ 932 = .ok (.invokevirtual 181, 3) := by decide +kernel
theorem dL_law__935 : decode cL_law_ 935 = .ok (.pop, 1) := by decide +kernel
theorem dL_law__936 : decode cL_law_ 936 = .ok (.goto 651, 3) := by decide +kernel
theorem dL_law__939 : decode cL_law_ 939 = .ok (.aload_n 1, 1) := by decide +kernel
theorem dL_law__940 : decode cL_law_ 940 = .ok (.aload_n 0, 1) := by decide +kernel
theorem dL_law__941 : decode cL_law_ 941 = .ok (.iload 4, 2) := by decide +kernel
theorem dL_law__943 : decode cL_law_ 943 = .ok (.iconst 1, 1) := by decide +kernel
theorem dL_law__944 : decode cL_law_ 944 = .ok (.iadd, 1) := by decide +kernel
theorem dL_law__945 : decode cL_law_ 945 = .ok (.iaload, 1) := by decide +kernel
theorem dL_law__946 : decode cL_law_ 946 = .ok (.aload_n 3, 1) := by decide +kernel
theorem dL_law__947 : decode cL_law_ 947 = .ok (.invokestatic 182, 3) := by decide +kernel
theorem dL_law__950 : decode cL_law_ 950 = .ok (.istore 5, 2) := by decide +kernel
theorem dL_law__952 : decode cL_law_ 952 = .ok (.aload_n 2, 1) := by decide +kernel
theorem dL_law__953 : decode cL_law_ 953 = .ok (.aload_n 0, 1) := by decide +kernel
theorem dL_law__954 : decode cL_law_ 954 = .ok (.iload 4, 2) := by decide +kernel
theorem dL_law__956 : decode cL_law_ 956 = .ok (.iconst 1, 1) := by decide +kernel
theorem dL_law__957 : decode cL_law_ 957 = .ok (.iadd, 1) := by decide +kernel
theorem dL_law__958 : decode cL_law_ 958 = .ok (.iaload, 1) := by decide +kernel
theorem dL_law__959 : decode cL_law_ 959 = .ok (.invokevirtual 184, 3) := by decide +kernel
theorem dL_law__962 : decode cL_law_ 962 = .ok (.istore 6, 2) := by decide +kernel
theorem dL_law__964 : decode cL_law_ 964 = .ok (.goto 623, 3) := by decide +kernel
theorem dL_law__967 : decode cL_law_ 967 = .ok (.aload_n 1, 1) := by decide +kernel
theorem dL_law__968 : decode cL_law_ 968 = .ok (.aload_n 0, 1) := by decide +kernel
theorem dL_law__969 : decode cL_law_ 969 = .ok (.iload 4, 2) := by decide +kernel
theorem dL_law__971 : decode cL_law_ 971 = .ok (.iconst 1, 1) := by decide +kernel
theorem dL_law__972 : decode cL_law_ 972 = .ok (.iadd, 1) := by decide +kernel
theorem dL_law__973 : decode cL_law_ 973 = .ok (.iaload, 1) := by decide +kernel
theorem dL_law__974 : decode cL_law_ 974 = .ok (.aload_n 3, 1) := by decide +kernel
theorem dL_law__975 : decode cL_law_ 975 = .ok (.invokestatic 185, 3) := by decide +kernel
theorem dL_law__978 : decode cL_law_ 978 = .ok (.istore 5, 2) := by decide +kernel
theorem dL_law__980 : decode cL_law_ 980 = .ok (.aload_n 2, 1) := by decide +kernel
theorem dL_law__981 : decode cL_law_ 981 = .ok (.aload_n 0, 1) := by decide +kernel
theorem dL_law__982 : decode cL_law_ 982 = .ok (.iload 4, 2) := by decide +kernel
theorem dL_law__984 : decode cL_law_ 984 = .ok (.iconst 1, 1) := by decide +kernel
theorem dL_law__985 : decode cL_law_ 985 = .ok (.iadd, 1) := by decide +kernel
theorem dL_law__986 : decode cL_law_ 986 = .ok (.iaload, 1) := by decide +kernel
theorem dL_law__987 : decode cL_law_ 987 = .ok (.invokevirtual 187, 3) := by decide +kernel
theorem dL_law__990 : decode cL_law_ 990 = .ok (.istore 6, 2) := by decide +kernel
theorem dL_law__992 : decode cL_law_ 992 = .ok (.goto 595, 3) := by decide +kernel
theorem dL_law__995 : decode cL_law_ 995 = .ok (.aload_n 1, 1) := by decide +kernel
theorem dL_law__996 : decode cL_law_ 996 = .ok (.aload_n 0, 1) := by decide +kernel
theorem dL_law__997 : decode cL_law_ 997 = .ok (.iload 4, 2) := by decide +kernel
theorem dL_law__999 : decode cL_law_ 999 = .ok (.iconst 1, 1) := by decide +kernel
theorem dL_law__1000 : decode cL_law_ 1000 = .ok (.iadd, 1) := by decide +kernel
theorem dL_law__1001 : decode cL_law_ 1001 = .ok (.iaload, 1) := by decide +kernel
theorem dL_law__1002 : decode cL_law_ 1002 = .ok (.aload_n 3, 1) := by decide +kernel
theorem dL_law__1003 : decode cL_law_ 1003 = .ok (.invokestatic 188, 3) := by decide +kernel
theorem dL_law__1006 : decode cL_law_ 1006 = .ok (.istore 5, 2) := by decide +kernel
theorem dL_law__1008 : decode cL_law_ 1008 = .ok (.aload_n 2, 1) := by decide +kernel
theorem dL_law__1009 : decode cL_law_ 1009 = .ok (.aload_n 0, 1) := by decide +kernel
theorem dL_law__1010 : decode cL_law_ 1010 = .ok (.iload 4, 2) := by decide +kernel
theorem dL_law__1012 : decode cL_law_ 1012 = .ok (.iconst 1, 1) := by decide +kernel
theorem dL_law__1013 : decode cL_law_ 1013 = .ok (.iadd, 1) := by decide +kernel
theorem dL_law__1014 : decode cL_law_ 1014 = .ok (.iaload, 1) := by decide +kernel
theorem dL_law__1015 : decode cL_law_ 1015 = .ok (.invokevirtual 190, 3) := by decide +kernel
theorem dL_law__1018 : decode cL_law_ 1018 = .ok (.istore 6, 2) := by decide +kernel
theorem dL_law__1020 : decode cL_law_ 1020 = .ok (.goto 567, 3) := by decide +kernel
theorem dL_law__1023 : decode cL_law_ 1023 = .ok (.aload_n 1, 1) := by decide +kernel
theorem dL_law__1024 : decode cL_law_ 1024 = .ok (.aload_n 0, 1) := by decide +kernel
theorem dL_law__1025 : decode cL_law_ 1025 = .ok (.iload 4, 2) := by decide +kernel
theorem dL_law__1027 : decode cL_law_ 1027 = .ok (.iconst 1, 1) := by decide +kernel
theorem dL_law__1028 : decode cL_law_ 1028 = .ok (.iadd, 1) := by decide +kernel
theorem dL_law__1029 : decode cL_law_ 1029 = .ok (.iaload, 1) := by decide +kernel
theorem dL_law__1030 : decode cL_law_ 1030 = .ok (.aload_n 3, 1) := by decide +kernel
theorem dL_law__1031 : decode cL_law_ 1031 = .ok (.invokestatic 191, 3) := by decide +kernel
theorem dL_law__1034 : decode cL_law_ 1034 = .ok (.istore 5, 2) := by decide +kernel
theorem dL_law__1036 : decode cL_law_ 1036 = .ok (.aload_n 2, 1) := by decide +kernel
theorem dL_law__1037 : decode cL_law_ 1037 = .ok (.aload_n 0, 1) := by decide +kernel
theorem dL_law__1038 : decode cL_law_ 1038 = .ok (.iload 4, 2) := by decide +kernel
theorem dL_law__1040 : decode cL_law_ 1040 = .ok (.iconst 1, 1) := by decide +kernel
theorem dL_law__1041 : decode cL_law_ 1041 = .ok (.iadd, 1) := by decide +kernel
theorem dL_law__1042 : decode cL_law_ 1042 = .ok (.iaload, 1) := by decide +kernel
theorem dL_law__1043 : decode cL_law_ 1043 = .ok (.invokevirtual 193, 3) := by decide +kernel
theorem dL_law__1046 : decode cL_law_ 1046 = .ok (.istore 6, 2) := by decide +kernel
theorem dL_law__1048 : decode cL_law_ 1048 = .ok (.goto 539, 3) := by decide +kernel
theorem dL_law__1051 : decode cL_law_ 1051 = .ok (.aload_n 1, 1) := by decide +kernel
theorem dL_law__1052 : decode cL_law_ 1052 = .ok (.aload_n 0, 1) := by decide +kernel
theorem dL_law__1053 : decode cL_law_ 1053 = .ok (.iload 4, 2) := by decide +kernel
theorem dL_law__1055 : decode cL_law_ 1055 = .ok (.iconst 1, 1) := by decide +kernel
theorem dL_law__1056 : decode cL_law_ 1056 = .ok (.iadd, 1) := by decide +kernel
theorem dL_law__1057 : decode cL_law_ 1057 = .ok (.iaload, 1) := by decide +kernel
theorem dL_law__1058 : decode cL_law_ 1058 = .ok (.aload_n 3, 1) := by decide +kernel
theorem dL_law__1059 : decode cL_law_ 1059 = .ok (.invokestatic 194, 3) := by decide +kernel
theorem dL_law__1062 : decode cL_law_ 1062 = .ok (.istore 5, 2) := by decide +kernel
theorem dL_law__1064 : decode cL_law_ 1064 = .ok (.aload_n 2, 1) := by decide +kernel
theorem dL_law__1065 : decode cL_law_ 1065 = .ok (.aload_n 0, 1) := by decide +kernel
theorem dL_law__1066 : decode cL_law_ 1066 = .ok (.iload 4, 2) := by decide +kernel
theorem dL_law__1068 : decode cL_law_ 1068 = .ok (.iconst 1, 1) := by decide +kernel
theorem dL_law__1069 : decode cL_law_ 1069 = .ok (.iadd, 1) := by decide +kernel
theorem dL_law__1070 : decode cL_law_ 1070 = .ok (.iaload, 1) := by decide +kernel
theorem dL_law__1071 : decode cL_law_ 1071 = .ok (.invokevirtual 196, 3) := by decide +kernel
theorem dL_law__1074 : decode cL_law_ 1074 = .ok (.istore 6, 2) := by decide +kernel
theorem dL_law__1076 : decode cL_law_ 1076 = .ok (.goto 511, 3) := by decide +kernel
theorem dL_law__1079 : decode cL_law_ 1079 = .ok (.aload_n 1, 1) := by decide +kernel
theorem dL_law__1080 : decode cL_law_ 1080 = .ok (.aload_n 0, 1) := by decide +kernel
theorem dL_law__1081 : decode cL_law_ 1081 = .ok (.iload 4, 2) := by decide +kernel
theorem dL_law__1083 : decode cL_law_ 1083 = .ok (.iconst 1, 1) := by decide +kernel
theorem dL_law__1084 : decode cL_law_ 1084 = .ok (.iadd, 1) := by decide +kernel
theorem dL_law__1085 : decode cL_law_ 1085 = .ok (.iaload, 1) := by decide +kernel
theorem dL_law__1086 : decode cL_law_ 1086 = .ok (.aload_n 0, 1) := by decide +kernel
theorem dL_law__1087 : decode cL_law_ 1087 = .ok (.iload 4, 2) := by decide +kernel
theorem dL_law__1089 : decode cL_law_ 1089 = .ok (.iconst 2, 1) := by decide +kernel
theorem dL_law__1090 : decode cL_law_ 1090 = .ok (.iadd, 1) := by decide +kernel
theorem dL_law__1091 : decode cL_law_ 1091 = .ok (.iaload, 1) := by decide +kernel
theorem dL_law__1092 : decode cL_law_ 1092 = .ok (.aload_n 0, 1) := by decide +kernel
theorem dL_law__1093 : decode cL_law_ 1093 = .ok (.iload 4, 2) := by decide +kernel
theorem dL_law__1095 : decode cL_law_ 1095 = .ok (.iconst 3, 1) := by decide +kernel
theorem dL_law__1096 : decode cL_law_ 1096 = .ok (.iadd, 1) := by decide +kernel
theorem dL_law__1097 : decode cL_law_ 1097 = .ok (.iaload, 1) := by decide +kernel
theorem dL_law__1098 : decode cL_law_ 1098 = .ok (.aload_n 0, 1) := by decide +kernel
theorem dL_law__1099 : decode cL_law_ 1099 = .ok (.iload 4, 2) := by decide +kernel
theorem dL_law__1101 : decode cL_law_ 1101 = .ok (.iconst 4, 1) := by decide +kernel
theorem dL_law__1102 : decode cL_law_ 1102 = .ok (.iadd, 1) := by decide +kernel
theorem dL_law__1103 : decode cL_law_ 1103 = .ok (.iaload, 1) := by decide +kernel
theorem dL_law__1104 : decode cL_law_ 1104 = .ok (.aload_n 3, 1) := by decide +kernel
theorem dL_law__1105 : decode cL_law_ 1105 = .ok (.invokestatic 197, 3) := by decide +kernel
theorem dL_law__1108 : decode cL_law_ 1108 = .ok (.istore 5, 2) := by decide +kernel
theorem dL_law__1110 : decode cL_law_ 1110 = .ok (.aload_n 2, 1) := by decide +kernel
theorem dL_law__1111 : decode cL_law_ 1111 = .ok (.aload_n 0, 1) := by decide +kernel
theorem dL_law__1112 : decode cL_law_ 1112 = .ok (.iload 4, 2) := by decide +kernel
theorem dL_law__1114 : decode cL_law_ 1114 = .ok (.iconst 1, 1) := by decide +kernel
theorem dL_law__1115 : decode cL_law_ 1115 = .ok (.iadd, 1) := by decide +kernel
theorem dL_law__1116 : decode cL_law_ 1116 = .ok (.iaload, 1) := by decide +kernel
theorem dL_law__1117 : decode cL_law_ 1117 = .ok (.aload_n 0, 1) := by decide +kernel
theorem dL_law__1118 : decode cL_law_ 1118 = .ok (.iload 4, 2) := by decide +kernel
theorem dL_law__1120 : decode cL_law_ 1120 = .ok (.iconst 2, 1) := by decide +kernel
theorem dL_law__1121 : decode cL_law_ 1121 = .ok (.iadd, 1) := by decide +kernel
theorem dL_law__1122 : decode cL_law_ 1122 = .ok (.iaload, 1) := by decide +kernel
theorem dL_law__1123 : decode cL_law_ 1123 = .ok (.aload_n 0, 1) := by decide +kernel
