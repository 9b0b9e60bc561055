/-! the law, its instructions -/
theorem dL_800 : decode code 800 = .ok (.aload_n 0, 1) := by decide +kernel
theorem dL_801 : decode code 801 = .ok (.iload_n 3, 1) := by decide +kernel
theorem dL_802 : decode code 802 = .ok (.iconst 1, 1) := by decide +kernel
theorem dL_803 : decode code 803 = .ok (.iadd, 1) := by decide +kernel
theorem dL_804 : decode code 804 = .ok (.iaload, 1) := by decide +kernel
theorem dL_805 : decode code 805 = .ok (.invokevirtual 92, 3) := by decide +kernel
theorem dL_808 : decode code 808 = .ok (.if_icmp .eq 944, 3) := by decide +kernel
theorem dL_813 : decode code 813 = .ok (.aload_n 1, 1) := by decide +kernel
theorem dL_814 : decode code 814 = .ok (.aload_n 0, 1) := by decide +kernel
theorem dL_815 : decode code 815 = .ok (.iload_n 3, 1) := by decide +kernel
theorem dL_816 : decode code 816 = .ok (.iconst 1, 1) := by decide +kernel
theorem dL_817 : decode code 817 = .ok (.iadd, 1) := by decide +kernel
theorem dL_818 : decode code 818 = .ok (.iaload, 1) := by decide +kernel
theorem dL_819 : decode code 819 = .ok (.aload_n 0, 1) := by decide +kernel
theorem dL_820 : decode code 820 = .ok (.iload_n 3, 1) := by decide +kernel
theorem dL_821 : decode code 821 = .ok (.iconst 2, 1) := by decide +kernel
theorem dL_822 : decode code 822 = .ok (.iadd, 1) := by decide +kernel
theorem dL_823 : decode code 823 = .ok (.iaload, 1) := by decide +kernel
theorem dL_824 : decode code 824 = .ok (.invokevirtual 93, 3) := by decide +kernel
theorem dL_827 : decode code 827 = .ok (.aload_n 2, 1) := by decide +kernel
theorem dL_828 : decode code 828 = .ok (.aload_n 0, 1) := by decide +kernel
theorem dL_829 : decode code 829 = .ok (.iload_n 3, 1) := by decide +kernel
theorem dL_830 : decode code 830 = .ok (.iconst 1, 1) := by decide +kernel
theorem dL_831 : decode code 831 = .ok (.iadd, 1) := by decide +kernel
theorem dL_832 : decode code 832 = .ok (.iaload, 1) := by decide +kernel
theorem dL_833 : decode code 833 = .ok (.aload_n 0, 1) := by decide +kernel
theorem dL_834 : decode code 834 = .ok (.iload_n 3, 1) := by decide +kernel
theorem dL_835 : decode code 835 = .ok (.iconst 2, 1) := by decide +kernel
theorem dL_836 : decode code 836 = .ok (.iadd, 1) := by decide +kernel
theorem dL_837 : decode code 837 = .ok (.iaload, 1) := by decide +kernel
theorem dL_838 : decode code 838 = .ok (.invokevirtual 96, 3) := by decide +kernel
theorem dL_841 : decode code 841 = .ok (.if_icmp .eq 911, 3) := by decide +kernel
theorem dL_846 : decode code 846 = .ok (.aload_n 1, 1) := by decide +kernel
theorem dL_847 : decode code 847 = .ok (.aload_n 0, 1) := by decide +kernel
theorem dL_848 : decode code 848 = .ok (.iload_n 3, 1) := by decide +kernel
theorem dL_849 : decode code 849 = .ok (.iconst 1, 1) := by decide +kernel
theorem dL_850 : decode code 850 = .ok (.iadd, 1) := by decide +kernel
theorem dL_851 : decode code 851 = .ok (.iaload, 1) := by decide +kernel
theorem dL_852 : decode code 852 = .ok (.invokevirtual 97, 3) := by decide +kernel
theorem dL_855 : decode code 855 = .ok (.aload_n 2, 1) := by decide +kernel
theorem dL_856 : decode code 856 = .ok (.aload_n 0, 1) := by decide +kernel
theorem dL_857 : decode code 857 = .ok (.iload_n 3, 1) := by decide +kernel
theorem dL_858 : decode code 858 = .ok (.iconst 1, 1) := by decide +kernel
theorem dL_859 : decode code 859 = .ok (.iadd, 1) := by decide +kernel
theorem dL_860 : decode code 860 = .ok (.iaload, 1) := by decide +kernel
theorem dL_861 : decode code 861 = .ok (.invokevirtual 100, 3) := by decide +kernel
theorem dL_864 : decode code 864 = .ok (.if_icmp .eq 888, 3) := by decide +kernel
theorem dL_869 : decode code 869 = .ok (.aload_n 1, 1) := by decide +kernel
theorem dL_870 : decode code 870 = .ok (.aload_n 0, 1) := by decide +kernel
theorem dL_871 : decode code 871 = .ok (.iload_n 3, 1) := by decide +kernel
theorem dL_872 : decode code 872 = .ok (.iconst 1, 1) := by decide +kernel
theorem dL_873 : decode code 873 = .ok (.iadd, 1) := by decide +kernel
theorem dL_874 : decode code 874 = .ok (.iaload, 1) := by decide +kernel
theorem dL_875 : decode code 875 = .ok (.aload_n 0, 1) := by decide +kernel
theorem dL_876 : decode code 876 = .ok (.iload_n 3, 1) := by decide +kernel
theorem dL_877 : decode code 877 = .ok (.iconst 2, 1) := by decide +kernel
theorem dL_878 : decode code 878 = .ok (.iadd, 1) := by decide +kernel
theorem dL_879 : decode code 879 = .ok (.iaload, 1) := by decide +kernel
theorem dL_880 : decode code 880 = .ok (.aload_n 0, 1) := by decide +kernel
theorem dL_881 : decode code 881 = .ok (.iload_n 3, 1) := by decide +kernel
theorem dL_882 : decode code 882 = .ok (.iconst 3, 1) := by decide +kernel
theorem dL_883 : decode code 883 = .ok (.iadd, 1) := by decide +kernel
theorem dL_884 : decode code 884 = .ok (.iaload, 1) := by decide +kernel
theorem dL_885 : decode code 885 = .ok (.invokevirtual 101, 3) := by decide +kernel
theorem dL_888 : decode code 888 = .ok (.aload_n 2, 1) := by decide +kernel
theorem dL_889 : decode code 889 = .ok (.aload_n 0, 1) := by decide +kernel
theorem dL_890 : decode code 890 = .ok (.iload_n 3, 1) := by decide +kernel
theorem dL_891 : decode code 891 = .ok (.iconst 1, 1) := by decide +kernel
theorem dL_892 : decode code 892 = .ok (.iadd, 1) := by decide +kernel
theorem dL_893 : decode code 893 = .ok (.iaload, 1) := by decide +kernel
theorem dL_894 : decode code 894 = .ok (.aload_n 0, 1) := by decide +kernel
theorem dL_895 : decode code 895 = .ok (.iload_n 3, 1) := by decide +kernel
theorem dL_896 : decode code 896 = .ok (.iconst 2, 1) := by decide +kernel
theorem dL_897 : decode code 897 = .ok (.iadd, 1) := by decide +kernel
theorem dL_898 : decode code 898 = .ok (.iaload, 1) := by decide +kernel
theorem dL_899 : decode code 899 = .ok (.aload_n 0, 1) := by decide +kernel
theorem dL_900 : decode code 900 = .ok (.iload_n 3, 1) := by decide +kernel
theorem dL_901 : decode code 901 = .ok (.iconst 3, 1) := by decide +kernel
theorem dL_902 : decode code 902 = .ok (.iadd, 1) := by decide +kernel
theorem dL_903 : decode code 903 = .ok (.iaload, 1) := by decide +kernel
theorem dL_904 : decode code 904 = .ok (.invokevirtual 104, 3) := by decide +kernel
theorem dL_907 : decode code 907 = .ok (.if_icmp .eq 845, 3) := by decide +kernel
theorem dL_912 : decode code 912 = .ok (.aload_n 1, 1) := by decide +kernel
theorem dL_913 : decode code 913 = .ok (.aload_n 0, 1) := by decide +kernel
theorem dL_914 : decode code 914 = .ok (.iload_n 3, 1) := by decide +kernel
theorem dL_915 : decode code 915 = .ok (.iconst 1, 1) := by decide +kernel
theorem dL_916 : decode code 916 = .ok (.iadd, 1) := by decide +kernel
theorem dL_917 : decode code 917 = .ok (.iaload, 1) := by decide +kernel
theorem dL_918 : decode code 918 = .ok (.aload_n 0, 1) := by decide +kernel
theorem dL_919 : decode code 919 = .ok (.iload_n 3, 1) := by decide +kernel
theorem dL_920 : decode code 920 = .ok (.iconst 2, 1) := by decide +kernel
theorem dL_921 : decode code 921 = .ok (.iadd, 1) := by decide +kernel
theorem dL_922 : decode code 922 = .ok (.iaload, 1) := by decide +kernel
theorem dL_923 : decode code 923 = .ok (.aload_n 0, 1) := by decide +kernel
theorem dL_924 : decode code 924 = .ok (.iload_n 3, 1) := by decide +kernel
theorem dL_925 : decode code 925 = .ok (.iconst 3, 1) := by decide +kernel
theorem dL_926 : decode code 926 = .ok (.iadd, 1) := by decide +kernel
theorem dL_927 : decode code 927 = .ok (.iaload, 1) := by decide +kernel
theorem dL_928 : decode code 928 = .ok (.invokevirtual 105, 3) := by decide +kernel
theorem dL_931 : decode code 931 = .ok (.aload_n 2, 1) := by decide +kernel
theorem dL_932 : decode code 932 = .ok (.aload_n 0, 1) := by decide +kernel
theorem dL_933 : decode code 933 = .ok (.iload_n 3, 1) := by decide +kernel
theorem dL_934 : decode code 934 = .ok (.iconst 1, 1) := by decide +kernel
theorem dL_935 : decode code 935 = .ok (.iadd, 1) := by decide +kernel
theorem dL_936 : decode code 936 = .ok (.iaload, 1) := by decide +kernel
theorem dL_937 : decode code 937 = .ok (.aload_n 0, 1) := by decide +kernel
theorem dL_938 : decode code 938 = .ok (.iload_n 3, 1) := by decide +kernel
theorem dL_939 : decode code 939 = .ok (.iconst 2, 1) := by decide +kernel
theorem dL_940 : decode code 940 = .ok (.iadd, 1) := by decide +kernel
theorem dL_941 : decode code 941 = .ok (.iaload, 1) := by decide +kernel
theorem dL_942 : decode code 942 = .ok (.aload_n 0, 1) := by decide +kernel
theorem dL_943 : decode code 943 = .ok (.iload_n 3, 1) := by decide +kernel
theorem dL_944 : decode code 944 = .ok (.iconst 3, 1) := by decide +kernel
theorem dL_945 : decode code 945 = .ok (.iadd, 1) := by decide +kernel
theorem dL_946 : decode code 946 = .ok (.iaload, 1) := by decide +kernel
theorem dL_947 : decode code 947 = .ok (.invokevirtual 108, 3) := by decide +kernel
theorem dL_950 : decode code 950 = .ok (.if_icmp .eq 802, 3) := by decide +kernel
theorem dL_955 : decode code 955 = .ok (.aload_n 1, 1) := by decide +kernel
theorem dL_956 : decode code 956 = .ok (.aload_n 0, 1) := by decide +kernel
theorem dL_957 : decode code 957 = .ok (.iload_n 3, 1) := by decide +kernel
theorem dL_958 : decode code 958 = .ok (.iconst 1, 1) := by decide +kernel
theorem dL_959 : decode code 959 = .ok (.iadd, 1) := by decide +kernel
theorem dL_960 : decode code 960 = .ok (.iaload, 1) := by decide +kernel
theorem dL_961 : decode code 961 = .ok (.invokevirtual 109, 3) := by decide +kernel
theorem dL_964 : decode code 964 = .ok (.aload_n 2, 1) := by decide +kernel
theorem dL_965 : decode code 965 = .ok (.aload_n 0, 1) := by decide +kernel
theorem dL_966 : decode code 966 = .ok (.iload_n 3, 1) := by decide +kernel
theorem dL_967 : decode code 967 = .ok (.iconst 1, 1) := by decide +kernel
theorem dL_968 : decode code 968 = .ok (.iadd, 1) := by decide +kernel
theorem dL_969 : decode code 969 = .ok (.iaload, 1) := by decide +kernel
theorem dL_970 : decode code 970 = .ok (.invokevirtual 112, 3) := by decide +kernel
theorem dL_973 : decode code 973 = .ok (.if_icmp .eq 779, 3) := by decide +kernel
theorem dL_978 : decode code 978 = .ok (.aload_n 1, 1) := by decide +kernel
theorem dL_979 : decode code 979 = .ok (.aload_n 0, 1) := by decide +kernel
theorem dL_980 : decode code 980 = .ok (.iload_n 3, 1) := by decide +kernel
theorem dL_981 : decode code 981 = .ok (.iconst 1, 1) := by decide +kernel
theorem dL_982 : decode code 982 = .ok (.iadd, 1) := by decide +kernel
theorem dL_983 : decode code 983 = .ok (.iaload, 1) := by decide +kernel
theorem dL_984 : decode code 984 = .ok (.invokevirtual 113, 3) := by decide +kernel
theorem dL_987 : decode code 987 = .ok (.aload_n 2, 1) := by decide +kernel
