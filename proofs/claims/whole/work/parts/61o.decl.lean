/-! decode rows of the law, 14 -/
theorem dL_law_2779 : decode cL_law 2779 = .ok (.aload_n 0, 1) := by decide +kernel
theorem dL_law_2780 : decode cL_law 2780 = .ok (.iload 4, 2) := by decide +kernel
theorem dL_law_2782 : decode cL_law 2782 = .ok (.iconst 1, 1) := by decide +kernel
theorem dL_law_2783 : decode cL_law 2783 = .ok (.iadd, 1) := by decide +kernel
theorem dL_law_2784 : decode cL_law 2784 = .ok (.iaload, 1) := by decide +kernel
theorem dL_law_2785 : decode cL_law 2785 = .ok (.aload_n 0, 1) := by decide +kernel
theorem dL_law_2786 : decode cL_law 2786 = .ok (.iload 4, 2) := by decide +kernel
theorem dL_law_2788 : decode cL_law 2788 = .ok (.iconst 2, 1) := by decide +kernel
theorem dL_law_2789 : decode cL_law 2789 = .ok (.iadd, 1) := by decide +kernel
theorem dL_law_2790 : decode cL_law 2790 = .ok (.iaload, 1) := by decide +kernel
theorem dL_law_2791 : decode cL_law 2791 = .ok (.aload_n 0, 1) := by decide +kernel
theorem dL_law_2792 : decode cL_law 2792 = .ok (.iload 4, 2) := by decide +kernel
theorem dL_law_2794 : decode cL_law 2794 = .ok (.iconst 3, 1) := by decide +kernel
theorem dL_law_2795 : decode cL_law 2795 = .ok (.iadd, 1) := by decide +kernel
theorem dL_law_2796 : decode cL_law 2796 = .ok (.iaload, 1) := by decide +kernel
theorem dL_law_2797 : decode cL_law 2797 = .ok (.invokevirtual 352, 3) := by decide +kernel
theorem dL_law_2800 : decode cL_law 2800 = .ok (.istore 6, 2) := by decide +kernel
theorem dL_law_2802 : decode cL_law 2802 = .ok (.aload_n 2, 1) := by decide +kernel
theorem dL_law_2803 : decode cL_law 2803 = .ok (.invokevirtual 159, 3) := by decide +kernel
theorem dL_law_2806 : decode cL_law 2806 = .ok (.iload 5, 2) := by decide +kernel
theorem dL_law_2808 : decode cL_law 2808 = .ok (.if_icmp .eq 5, 3) := by decide +kernel
theorem dL_law_2813 : decode cL_law 2813 = .ok (.iload 5, 2) := by decide +kernel
theorem dL_law_2815 : decode cL_law 2815 = .ok (.ifCond .ne 15, 3) := by decide +kernel
theorem dL_law_2818 : decode cL_law 2818 = .ok (.aload_n 3, 1) := by decide +kernel
theorem dL_law_2819 : decode cL_law 2819 = .ok (.iconst 0, 1) := by decide +kernel
theorem dL_law_2820 : decode cL_law 2820 = .ok (.laload, 1) := by decide +kernel
theorem dL_law_2821 : decode cL_law 2821 = .ok (.iload 6, 2) := by decide +kernel
theorem dL_law_2823 : decode cL_law 2823 = .ok (.i2l, 1) := by decide +kernel
theorem dL_law_2824 : decode cL_law 2824 = .ok (.lcmp, 1) := by decide +kernel
theorem dL_law_2825 : decode cL_law 2825 = .ok (.ifCond .eq 5, 3) := by decide +kernel
theorem dL_law_2830 : decode cL_law 2830 = .ok (.goto 408, 3) := by decide +kernel
theorem dL_law_2833 : decode cL_law 2833 = .ok (.aload_n 1, 1) := by decide +kernel
theorem dL_law_2834 : decode cL_law 2834 = .ok (.aload_n 0, 1) := by decide +kernel
theorem dL_law_2835 : decode cL_law 2835 = .ok (.iload 4, 2) := by decide +kernel
theorem dL_law_2837 : decode cL_law 2837 = .ok (.iconst 1, 1) := by decide +kernel
theorem dL_law_2838 : decode cL_law 2838 = .ok (.iadd, 1) := by decide +kernel
theorem dL_law_2839 : decode cL_law 2839 = .ok (.iaload, 1) := by decide +kernel
theorem dL_law_2840 : decode cL_law 2840 = .ok (.aload_n 3, 1) := by decide +kernel
theorem dL_law_2841 : decode cL_law 2841 = .ok (.invokestatic 353, 3) := by decide +kernel
theorem dL_law_2844 : decode cL_law 2844 = .ok (.istore 5, 2) := by decide +kernel
theorem dL_law_2846 : decode cL_law 2846 = .ok (.aload_n 2, 1) := by decide +kernel
theorem dL_law_2847 : decode cL_law 2847 = .ok (.aload_n 0, 1) := by decide +kernel
theorem dL_law_2848 : decode cL_law 2848 = .ok (.iload 4, 2) := by decide +kernel
theorem dL_law_2850 : decode cL_law 2850 = .ok (.iconst 1, 1) := by decide +kernel
theorem dL_law_2851 : decode cL_law 2851 = .ok (.iadd, 1) := by decide +kernel
theorem dL_law_2852 : decode cL_law 2852 = .ok (.iaload, 1) := by decide +kernel
theorem dL_law_2853 : decode cL_law 2853 = .ok (.invokevirtual 355, 3) := by decide +kernel
theorem dL_law_2856 : decode cL_law 2856 = .ok (.istore 6, 2) := by decide +kernel
theorem dL_law_2858 : decode cL_law 2858 = .ok (.aload_n 2, 1) := by decide +kernel
theorem dL_law_2859 : decode cL_law 2859 = .ok (.invokevirtual 159, 3) := by decide +kernel
theorem dL_law_2862 : decode cL_law 2862 = .ok (.iload 5, 2) := by decide +kernel
theorem dL_law_2864 : decode cL_law 2864 = .ok (.if_icmp .eq 5, 3) := by decide +kernel
theorem dL_law_2869 : decode cL_law 2869 = .ok (.iload 5, 2) := by decide +kernel
theorem dL_law_2871 : decode cL_law 2871 = .ok (.ifCond .ne 15, 3) := by decide +kernel
theorem dL_law_2874 : decode cL_law 2874 = .ok (.aload_n 3, 1) := by decide +kernel
theorem dL_law_2875 : decode cL_law 2875 = .ok (.iconst 0, 1) := by decide +kernel
theorem dL_law_2876 : decode cL_law 2876 = .ok (.laload, 1) := by decide +kernel
theorem dL_law_2877 : decode cL_law 2877 = .ok (.iload 6, 2) := by decide +kernel
theorem dL_law_2879 : decode cL_law 2879 = .ok (.i2l, 1) := by decide +kernel
theorem dL_law_2880 : decode cL_law 2880 = .ok (.lcmp, 1) := by decide +kernel
theorem dL_law_2881 : decode cL_law 2881 = .ok (.ifCond .eq 5, 3) := by decide +kernel
theorem dL_law_2886 : decode cL_law 2886 = .ok (.goto 352, 3) := by decide +kernel
theorem dL_law_2889 : decode cL_law 2889 = .ok (.aload_n 1, 1) := by decide +kernel
theorem dL_law_2890 : decode cL_law 2890 = .ok (.aload_n 0, 1) := by decide +kernel
theorem dL_law_2891 : decode cL_law 2891 = .ok (.iload 4, 2) := by decide +kernel
theorem dL_law_2893 : decode cL_law 2893 = .ok (.iconst 1, 1) := by decide +kernel
theorem dL_law_2894 : decode cL_law 2894 = .ok (.iadd, 1) := by decide +kernel
theorem dL_law_2895 : decode cL_law 2895 = .ok (.iaload, 1) := by decide +kernel
theorem dL_law_2896 : decode cL_law 2896 = .ok (.aload_n 3, 1) := by decide +kernel
theorem dL_law_2897 : decode cL_law 2897 = .ok (.invokestatic 356, 3) := by decide +kernel
theorem dL_law_2900 : decode cL_law 2900 = .ok (.istore 5, 2) := by decide +kernel
theorem dL_law_2902 : decode cL_law 2902 = .ok (.aload_n 2, 1) := by decide +kernel
theorem dL_law_2903 : decode cL_law 2903 = .ok (.aload_n 0, 1) := by decide +kernel
theorem dL_law_2904 : decode cL_law 2904 = .ok (.iload 4, 2) := by decide +kernel
theorem dL_law_2906 : decode cL_law 2906 = .ok (.iconst 1, 1) := by decide +kernel
theorem dL_law_2907 : decode cL_law 2907 = .ok (.iadd, 1) := by decide +kernel
theorem dL_law_2908 : decode cL_law 2908 = .ok (.iaload, 1) := by decide +kernel
theorem dL_law_2909 : decode cL_law 2909 = .ok (.invokevirtual 358, 3) := by decide +kernel
theorem dL_law_2912 : decode cL_law 2912 = .ok (.istore 6, 2) := by decide +kernel
theorem dL_law_2914 : decode cL_law 2914 = .ok (.aload_n 2, 1) := by decide +kernel
theorem dL_law_2915 : decode cL_law 2915 = .ok (.invokevirtual 159, 3) := by decide +kernel
theorem dL_law_2918 : decode cL_law 2918 = .ok (.iload 5, 2) := by decide +kernel
theorem dL_law_2920 : decode cL_law 2920 = .ok (.if_icmp .eq 5, 3) := by decide +kernel
theorem dL_law_2925 : decode cL_law 2925 = .ok (.iload 5, 2) := by decide +kernel
theorem dL_law_2927 : decode cL_law 2927 = .ok (.ifCond .ne 15, 3) := by decide +kernel
theorem dL_law_2930 : decode cL_law 2930 = .ok (.aload_n 3, 1) := by decide +kernel
theorem dL_law_2931 : decode cL_law 2931 = .ok (.iconst 0, 1) := by decide +kernel
theorem dL_law_2932 : decode cL_law 2932 = .ok (.laload, 1) := by decide +kernel
theorem dL_law_2933 : decode cL_law 2933 = .ok (.iload 6, 2) := by decide +kernel
theorem dL_law_2935 : decode cL_law 2935 = .ok (.i2l, 1) := by decide +kernel
theorem dL_law_2936 : decode cL_law 2936 = .ok (.lcmp, 1) := by decide +kernel
theorem dL_law_2937 : decode cL_law 2937 = .ok (.ifCond .eq 5, 3) := by decide +kernel
theorem dL_law_2942 : decode cL_law 2942 = .ok (.goto 296, 3) := by decide +kernel
theorem dL_law_2945 : decode cL_law 2945 = .ok (.aload_n 1, 1) := by decide +kernel
theorem dL_law_2946 : decode cL_law 2946 = .ok (.aload_n 0, 1) := by decide +kernel
theorem dL_law_2947 : decode cL_law 2947 = .ok (.iload 4, 2) := by decide +kernel
theorem dL_law_2949 : decode cL_law 2949 = .ok (.iconst 1, 1) := by decide +kernel
theorem dL_law_2950 : decode cL_law 2950 = .ok (.iadd, 1) := by decide +kernel
theorem dL_law_2951 : decode cL_law 2951 = .ok (.iaload, 1) := by decide +kernel
theorem dL_law_2952 : decode cL_law 2952 = .ok (.aload_n 0, 1) := by decide +kernel
