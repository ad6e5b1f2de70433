/-! decode rows of the law, by program: 6 -/
theorem dW_law_2724 : decode (zby mW_law) 2724 = .ok (.ifCond .ne 36, 3) := by decide +kernel
theorem dW_law_2727 : decode (zby mW_law) 2727 = .ok (.aload 4, 2) := by decide +kernel
theorem dW_law_2729 : decode (zby mW_law) 2729 = .ok (.iconst 0, 1) := by decide +kernel
theorem dW_law_2730 : decode (zby mW_law) 2730 = .ok (.daload, 1) := by decide +kernel
theorem dW_law_2731 : decode (zby mW_law) 2731 = .ok (.fload 7, 2) := by decide +kernel
theorem dW_law_2733 : decode (zby mW_law) 2733 = .ok (.f2d, 1) := by decide +kernel
theorem dW_law_2734 : decode (zby mW_law) 2734 = .ok (.dcmp .l, 1) := by decide +kernel
theorem dW_law_2735 : decode (zby mW_law) 2735 = .ok (.ifCond .eq 25, 3) := by decide +kernel
theorem dW_law_2738 : decode (zby mW_law) 2738 = .ok (.aload 4, 2) := by decide +kernel
theorem dW_law_2740 : decode (zby mW_law) 2740 = .ok (.iconst 0, 1) := by decide +kernel
theorem dW_law_2741 : decode (zby mW_law) 2741 = .ok (.daload, 1) := by decide +kernel
theorem dW_law_2742 : decode (zby mW_law) 2742 = .ok (.aload 4, 2) := by decide +kernel
theorem dW_law_2744 : decode (zby mW_law) 2744 = .ok (.iconst 0, 1) := by decide +kernel
theorem dW_law_2745 : decode (zby mW_law) 2745 = .ok (.daload, 1) := by decide +kernel
theorem dW_law_2746 : decode (zby mW_law) 2746 = .ok (.dcmp .l, 1) := by decide +kernel
theorem dW_law_2747 : decode (zby mW_law) 2747 = .ok (.ifCond .eq 11, 3) := by decide +kernel
theorem dW_law_2750 : decode (zby mW_law) 2750 = .ok (.fload 7, 2) := by decide +kernel
theorem dW_law_2752 : decode (zby mW_law) 2752 = .ok (.fload 7, 2) := by decide +kernel
theorem dW_law_2754 : decode (zby mW_law) 2754 = .ok (.fcmp .l, 1) := by decide +kernel
theorem dW_law_2755 : decode (zby mW_law) 2755 = .ok (.ifCond .ne 5, 3) := by decide +kernel
theorem dW_law_2760 : decode (zby mW_law) 2760 = .ok (.goto 500, 3) := by decide +kernel
theorem dW_law_2763 : decode (zby mW_law) 2763 = .ok (.aload_n 1, 1) := by decide +kernel
theorem dW_law_2764 : decode (zby mW_law) 2764 = .ok (.invokevirtual 328, 3) := by decide +kernel
theorem dW_law_2767 : decode (zby mW_law) 2767 = .ok (.aload_n 2, 1) := by decide +kernel
theorem dW_law_2768 : decode (zby mW_law) 2768 = .ok (.invokevirtual 332, 3) := by decide +kernel
theorem dW_law_2771 : decode (zby mW_law) 2771 = .ok (.if_icmp .eq 489, 3) := by decide +kernel
theorem dW_law_2776 : decode (zby mW_law) 2776 = .ok (.aload_n 1, 1) := by decide +kernel
theorem dW_law_2777 : decode (zby mW_law) 2777 = .ok (.aload_n 0, 1) := by decide +kernel
theorem dW_law_2778 : decode (zby mW_law) 2778 = .ok (.iload 5, 2) := by decide +kernel
theorem dW_law_2780 : decode (zby mW_law) 2780 = .ok (.iconst 1, 1) := by decide +kernel
theorem dW_law_2781 : decode (zby mW_law) 2781 = .ok (.iadd, 1) := by decide +kernel
theorem dW_law_2782 : decode (zby mW_law) 2782 = .ok (.iaload, 1) := by decide +kernel
theorem dW_law_2783 : decode (zby mW_law) 2783 = .ok (.aload_n 3, 1) := by decide +kernel
theorem dW_law_2784 : decode (zby mW_law) 2784 = .ok (.invokestatic 333, 3) := by decide +kernel
theorem dW_law_2787 : decode (zby mW_law) 2787 = .ok (.istore 6, 2) := by decide +kernel
theorem dW_law_2789 : decode (zby mW_law) 2789 = .ok (.aload_n 2, 1) := by decide +kernel
theorem dW_law_2790 : decode (zby mW_law) 2790 = .ok (.aload_n 0, 1) := by decide +kernel
theorem dW_law_2791 : decode (zby mW_law) 2791 = .ok (.iload 5, 2) := by decide +kernel
theorem dW_law_2793 : decode (zby mW_law) 2793 = .ok (.iconst 1, 1) := by decide +kernel
theorem dW_law_2794 : decode (zby mW_law) 2794 = .ok (.iadd, 1) := by decide +kernel
theorem dW_law_2795 : decode (zby mW_law) 2795 = .ok (.iaload, 1) := by decide +kernel
theorem dW_law_2796 : decode (zby mW_law) 2796 = .ok (.invokevirtual 335, 3) := by decide +kernel
theorem dW_law_2799 : decode (zby mW_law) 2799 = .ok (.istore 7, 2) := by decide +kernel
theorem dW_law_2801 : decode (zby mW_law) 2801 = .ok (.aload_n 2, 1) := by decide +kernel
theorem dW_law_2802 : decode (zby mW_law) 2802 = .ok (.invokevirtual 183, 3) := by decide +kernel
theorem dW_law_2805 : decode (zby mW_law) 2805 = .ok (.iload 6, 2) := by decide +kernel
theorem dW_law_2807 : decode (zby mW_law) 2807 = .ok (.if_icmp .eq 5, 3) := by decide +kernel
theorem dW_law_2812 : decode (zby mW_law) 2812 = .ok (.iload 6, 2) := by decide +kernel
theorem dW_law_2814 : decode (zby mW_law) 2814 = .ok (.ifCond .ne 15, 3) := by decide +kernel
theorem dW_law_2817 : decode (zby mW_law) 2817 = .ok (.aload_n 3, 1) := by decide +kernel
theorem dW_law_2818 : decode (zby mW_law) 2818 = .ok (.iconst 0, 1) := by decide +kernel
theorem dW_law_2819 : decode (zby mW_law) 2819 = .ok (.laload, 1) := by decide +kernel
theorem dW_law_2820 : decode (zby mW_law) 2820 = .ok (.iload 7, 2) := by decide +kernel
theorem dW_law_2822 : decode (zby mW_law) 2822 = .ok (.i2l, 1) := by decide +kernel
theorem dW_law_2823 : decode (zby mW_law) 2823 = .ok (.lcmp, 1) := by decide +kernel
theorem dW_law_2824 : decode (zby mW_law) 2824 = .ok (.ifCond .eq 5, 3) := by decide +kernel
theorem dW_law_2829 : decode (zby mW_law) 2829 = .ok (.goto 431, 3) := by decide +kernel
theorem dW_law_2832 : decode (zby mW_law) 2832 = .ok (.aload_n 1, 1) := by decide +kernel
theorem dW_law_2833 : decode (zby mW_law) 2833 = .ok (.aload_n 0, 1) := by decide +kernel
theorem dW_law_2834 : decode (zby mW_law) 2834 = .ok (.iload 5, 2) := by decide +kernel
theorem dW_law_2836 : decode (zby mW_law) 2836 = .ok (.iconst 1, 1) := by decide +kernel
theorem dW_law_2837 : decode (zby mW_law) 2837 = .ok (.iadd, 1) := by decide +kernel
theorem dW_law_2838 : decode (zby mW_law) 2838 = .ok (.iaload, 1) := by decide +kernel
theorem dW_law_2839 : decode (zby mW_law) 2839 = .ok (.aload_n 0, 1) := by decide +kernel
theorem dW_law_2840 : decode (zby mW_law) 2840 = .ok (.iload 5, 2) := by decide +kernel
theorem dW_law_2842 : decode (zby mW_law) 2842 = .ok (.iconst 2, 1) := by decide +kernel
theorem dW_law_2843 : decode (zby mW_law) 2843 = .ok (.iadd, 1) := by decide +kernel
theorem dW_law_2844 : decode (zby mW_law) 2844 = .ok (.iaload, 1) := by decide +kernel
theorem dW_law_2845 : decode (zby mW_law) 2845 = .ok (.aload_n 3, 1) := by decide +kernel
theorem dW_law_2846 : decode (zby mW_law) 2846 = .ok (.invokestatic 336, 3) := by decide +kernel
theorem dW_law_2849 : decode (zby mW_law) 2849 = .ok (.istore 6, 2) := by decide +kernel
theorem dW_law_2851 : decode (zby mW_law) 2851 = .ok (.aload_n 2, 1) := by decide +kernel
theorem dW_law_2852 : decode (zby mW_law) 2852 = .ok (.aload_n 0, 1) := by decide +kernel
theorem dW_law_2853 : decode (zby mW_law) 2853 = .ok (.iload 5, 2) := by decide +kernel
theorem dW_law_2855 : decode (zby mW_law) 2855 = .ok (.iconst 1, 1) := by decide +kernel
theorem dW_law_2856 : decode (zby mW_law) 2856 = .ok (.iadd, 1) := by decide +kernel
theorem dW_law_2857 : decode (zby mW_law) 2857 = .ok (.iaload, 1) := by decide +kernel
theorem dW_law_2858 : decode (zby mW_law) 2858 = .ok (.aload_n 0, 1) := by decide +kernel
theorem dW_law_2859 : decode (zby mW_law) 2859 = .ok (.iload 5, 2) := by decide +kernel
theorem dW_law_2861 : decode (zby mW_law) 2861 = .ok (.iconst 2, 1) := by decide +kernel
theorem dW_law_2862 : decode (zby mW_law) 2862 = .ok (.iadd, 1) := by decide +kernel
theorem dW_law_2863 : decode (zby mW_law) 2863 = .ok (.iaload, 1) := by decide +kernel
theorem dW_law_2864 : decode (zby mW_law) 2864 = .ok (.invokevirtual 338, 3) := by decide +kernel
theorem dW_law_2867 : decode (zby mW_law) 2867 = .ok (.istore 7, 2) := by decide +kernel
theorem dW_law_2869 : decode (zby mW_law) 2869 = .ok (.aload_n 2, 1) := by decide +kernel
theorem dW_law_2870 : decode (zby mW_law) 2870 = .ok (.invokevirtual 183, 3) := by decide +kernel
theorem dW_law_2873 : decode (zby mW_law) 2873 = .ok (.iload 6, 2) := by decide +kernel
theorem dW_law_2875 : decode (zby mW_law) 2875 = .ok (.if_icmp .eq 5, 3) := by decide +kernel
theorem dW_law_2880 : decode (zby mW_law) 2880 = .ok (.iload 6, 2) := by decide +kernel
theorem dW_law_2882 : decode (zby mW_law) 2882 = .ok (.ifCond .ne 15, 3) := by decide +kernel
theorem dW_law_2885 : decode (zby mW_law) 2885 = .ok (.aload_n 3, 1) := by decide +kernel
theorem dW_law_2886 : decode (zby mW_law) 2886 = .ok (.iconst 0, 1) := by decide +kernel
theorem dW_law_2887 : decode (zby mW_law) 2887 = .ok (.laload, 1) := by decide +kernel
theorem dW_law_2888 : decode (zby mW_law) 2888 = .ok (.iload 7, 2) := by decide +kernel
theorem dW_law_2890 : decode (zby mW_law) 2890 = .ok (.i2l, 1) := by decide +kernel
theorem dW_law_2891 : decode (zby mW_law) 2891 = .ok (.lcmp, 1) := by decide +kernel
theorem dW_law_2892 : decode (zby mW_law) 2892 = .ok (.ifCond .eq 5, 3) := by decide +kernel
theorem dW_law_2897 : decode (zby mW_law) 2897 = .ok (.goto 363, 3) := by decide +kernel
theorem dW_law_2900 : decode (zby mW_law) 2900 = .ok (.aload_n 1, 1) := by decide +kernel
theorem dW_law_2901 : decode (zby mW_law) 2901 = .ok (.aload_n 0, 1) := by decide +kernel
theorem dW_law_2902 : decode (zby mW_law) 2902 = .ok (.iload 5, 2) := by decide +kernel
theorem dW_law_2904 : decode (zby mW_law) 2904 = .ok (.iconst 1, 1) := by decide +kernel
theorem dW_law_2905 : decode (zby mW_law) 2905 = .ok (.iadd, 1) := by decide +kernel
theorem dW_law_2906 : decode (zby mW_law) 2906 = .ok (.iaload, 1) := by decide +kernel
theorem dW_law_2907 : decode (zby mW_law) 2907 = .ok (.aload_n 3, 1) := by decide +kernel
theorem dW_law_2908 : decode (zby mW_law) 2908 = .ok (.invokestatic 339, 3) := by decide +kernel
theorem dW_law_2911 : decode (zby mW_law) 2911 = .ok (.istore 6, 2) := by decide +kernel
theorem dW_law_2913 : decode (zby mW_law) 2913 = .ok (.aload_n 2, 1) := by decide +kernel
theorem dW_law_2914 : decode (zby mW_law) 2914 = .ok (.aload_n 0, 1) := by decide +kernel
theorem dW_law_2915 : decode (zby mW_law) 2915 = .ok (.iload 5, 2) := by decide +kernel
theorem dW_law_2917 : decode (zby mW_law) 2917 = .ok (.iconst 1, 1) := by decide +kernel
theorem dW_law_2918 : decode (zby mW_law) 2918 = .ok (.iadd, 1) := by decide +kernel
theorem dW_law_2919 : decode (zby mW_law) 2919 = .ok (.iaload, 1) := by decide +kernel
theorem dW_law_2920 : decode (zby mW_law) 2920 = .ok (.invokevirtual 341, 3) := by decide +kernel
theorem dW_law_2923 : decode (zby mW_law) 2923 = .ok (.istore 7, 2) := by decide +kernel
theorem dW_law_2925 : decode (zby mW_law) 2925 = .ok (.aload_n 2, 1) := by decide +kernel
theorem dW_law_2926 : decode (zby mW_law) 2926 = .ok (.invokevirtual 183, 3) := by decide +kernel
theorem dW_law_2929 : decode (zby mW_law) 2929 = .ok (.iload 6, 2) := by decide +kernel
theorem dW_law_2931 : decode (zby mW_law) 2931 = .ok (.if_icmp .eq 5, 3) := by decide +kernel
theorem dW_law_2936 : decode (zby mW_law) 2936 = .ok (.iload 6, 2) := by decide +kernel
theorem dW_law_2938 : decode (zby mW_law) 2938 = .ok (.ifCond .ne 15, 3) := by decide +kernel
theorem dW_law_2941 : decode (zby mW_law) 2941 = .ok (.aload_n 3, 1) := by decide +kernel
theorem dW_law_2942 : decode (zby mW_law) 2942 = .ok (.iconst 0, 1) := by decide +kernel
theorem dW_law_2943 : decode (zby mW_law) 2943 = .ok (.laload, 1) := by decide +kernel
theorem dW_law_2944 : decode (zby mW_law) 2944 = .ok (.iload 7, 2) := by decide +kernel
theorem dW_law_2946 : decode (zby mW_law) 2946 = .ok (.i2l, 1) := by decide +kernel
theorem dW_law_2947 : decode (zby mW_law) 2947 = .ok (.lcmp, 1) := by decide +kernel
theorem dW_law_2948 : decode (zby mW_law) 2948 = .ok (.ifCond .eq 5, 3) := by decide +kernel
theorem dW_law_2953 : decode (zby mW_law) 2953 = .ok (.goto 307, 3) := by decide +kernel
theorem dW_law_2956 : decode (zby mW_law) 2956 = .ok (.aload_n 1, 1) := by decide +kernel
theorem dW_law_2957 : decode (zby mW_law) 2957 = .ok (.aload_n 0, 1) := by decide +kernel
theorem dW_law_2958 : decode (zby mW_law) 2958 = .ok (.iload 5, 2) := by decide +kernel
theorem dW_law_2960 : decode (zby mW_law) 2960 = .ok (.iconst 1, 1) := by decide +kernel
theorem dW_law_2961 : decode (zby mW_law) 2961 = .ok (.iadd, 1) := by decide +kernel
theorem dW_law_2962 : decode (zby mW_law) 2962 = .ok (.iaload, 1) := by decide +kernel
theorem dW_law_2963 : decode (zby mW_law) 2963 = .ok (.i2c, 1) := by decide +kernel
theorem dW_law_2964 : decode (zby mW_law) 2964 = .ok (.aload_n 3, 1) := by decide +kernel
theorem dW_law_2965 : decode (zby mW_law) 2965 = .ok (.invokestatic 342, 3) := by decide +kernel
theorem dW_law_2968 : decode (zby mW_law) 2968 = .ok (.istore 6, 2) := by decide +kernel
theorem dW_law_2970 : decode (zby mW_law) 2970 = .ok (.aload_n 2, 1) := by decide +kernel
theorem dW_law_2971 : decode (zby mW_law) 2971 = .ok (.aload_n 0, 1) := by decide +kernel
theorem dW_law_2972 : decode (zby mW_law) 2972 = .ok (.iload 5, 2) := by decide +kernel
theorem dW_law_2974 : decode (zby mW_law) 2974 = .ok (.iconst 1, 1) := by decide +kernel
theorem dW_law_2975 : decode (zby mW_law) 2975 = .ok (.iadd, 1) := by decide +kernel
theorem dW_law_2976 : decode (zby mW_law) 2976 = .ok (.iaload, 1) := by decide +kernel
theorem dW_law_2977 : decode (zby mW_law) 2977 = .ok (.i2c, 1) := by decide +kernel
theorem dW_law_2978 : decode (zby mW_law) 2978 = .ok (.invokevirtual 345, 3) := by decide +kernel
theorem dW_law_2981 : decode (zby mW_law) 2981 = .ok (.istore 7, 2) := by decide +kernel
theorem dW_law_2983 : decode (zby mW_law) 2983 = .ok (.aload_n 2, 1) := by decide +kernel
theorem dW_law_2984 : decode (zby mW_law) 2984 = .ok (.invokevirtual 183, 3) := by decide +kernel
theorem dW_law_2987 : decode (zby mW_law) 2987 = .ok (.iload 6, 2) := by decide +kernel
theorem dW_law_2989 : decode (zby mW_law) 2989 = .ok (.if_icmp .eq 5, 3) := by decide +kernel
theorem dW_law_2994 : decode (zby mW_law) 2994 = .ok (.iload 6, 2) := by decide +kernel
theorem dW_law_2996 : decode (zby mW_law) 2996 = .ok (.ifCond .ne 15, 3) := by decide +kernel
theorem dW_law_2999 : decode (zby mW_law) 2999 = .ok (.aload_n 3, 1) := by decide +kernel
theorem dW_law_3000 : decode (zby mW_law) 3000 = .ok (.iconst 0, 1) := by decide +kernel
theorem dW_law_3001 : decode (zby mW_law) 3001 = .ok (.laload, 1) := by decide +kernel
theorem dW_law_3002 : decode (zby mW_law) 3002 = .ok (.iload 7, 2) := by decide +kernel
theorem dW_law_3004 : decode (zby mW_law) 3004 = .ok (.i2l, 1) := by decide +kernel
theorem dW_law_3005 : decode (zby mW_law) 3005 = .ok (.lcmp, 1) := by decide +kernel
theorem dW_law_3006 : decode (zby mW_law) 3006 = .ok (.ifCond .eq 5, 3) := by decide +kernel
theorem dW_law_3011 : decode (zby mW_law) 3011 = .ok (.goto 249, 3) := by decide +kernel
theorem dW_law_3014 : decode (zby mW_law) 3014 = .ok (.aload_n 1, 1) := by decide +kernel
theorem dW_law_3015 : decode (zby mW_law) 3015 = .ok (.aload_n 3, 1) := by decide +kernel
theorem dW_law_3016 : decode (zby mW_law) 3016 = .ok (.invokestatic 346, 3) := by decide +kernel
theorem dW_law_3019 : decode (zby mW_law) 3019 = .ok (.istore 6, 2) := by decide +kernel
theorem dW_law_3021 : decode (zby mW_law) 3021 = .ok (.aload_n 2, 1) := by decide +kernel
theorem dW_law_3022 : decode (zby mW_law) 3022 = .ok (.invokevirtual 348, 3) := by decide +kernel
theorem dW_law_3025 : decode (zby mW_law) 3025 = .ok (.istore 7, 2) := by decide +kernel
theorem dW_law_3027 : decode (zby mW_law) 3027 = .ok (.aload_n 2, 1) := by decide +kernel
theorem dW_law_3028 : decode (zby mW_law) 3028 = .ok (.invokevirtual 183, 3) := by decide +kernel
theorem dW_law_3031 : decode (zby mW_law) 3031 = .ok (.iload 6, 2) := by decide +kernel
theorem dW_law_3033 : decode (zby mW_law) 3033 = .ok (.if_icmp .eq 5, 3) := by decide +kernel
theorem dW_law_3038 : decode (zby mW_law) 3038 = .ok (.iload 6, 2) := by decide +kernel
theorem dW_law_3040 : decode (zby mW_law) 3040 = .ok (.ifCond .ne 15, 3) := by decide +kernel
theorem dW_law_3043 : decode (zby mW_law) 3043 = .ok (.aload_n 3, 1) := by decide +kernel
theorem dW_law_3044 : decode (zby mW_law) 3044 = .ok (.iconst 0, 1) := by decide +kernel
theorem dW_law_3045 : decode (zby mW_law) 3045 = .ok (.laload, 1) := by decide +kernel
theorem dW_law_3046 : decode (zby mW_law) 3046 = .ok (.iload 7, 2) := by decide +kernel
theorem dW_law_3048 : decode (zby mW_law) 3048 = .ok (.i2l, 1) := by decide +kernel
theorem dW_law_3049 : decode (zby mW_law) 3049 = .ok (.lcmp, 1) := by decide +kernel
theorem dW_law_3050 : decode (zby mW_law) 3050 = .ok (.ifCond .eq 5, 3) := by decide +kernel
theorem dW_law_3055 : decode (zby mW_law) 3055 = .ok (.goto 205, 3) := by decide +kernel
theorem dW_law_3058 : decode (zby mW_law) 3058 = .ok (.aload_n 1, 1) := by decide +kernel
theorem dW_law_3059 : decode (zby mW_law) 3059 = .ok (.aload_n 3, 1) := by decide +kernel
theorem dW_law_3060 : decode (zby mW_law) 3060 = .ok (.invokestatic 349, 3) := by decide +kernel
theorem dW_law_3063 : decode (zby mW_law) 3063 = .ok (.istore 6, 2) := by decide +kernel
theorem dW_law_3065 : decode (zby mW_law) 3065 = .ok (.aload_n 2, 1) := by decide +kernel
theorem dW_law_3066 : decode (zby mW_law) 3066 = .ok (.invokevirtual 351, 3) := by decide +kernel
theorem dW_law_3069 : decode (zby mW_law) 3069 = .ok (.istore 7, 2) := by decide +kernel
theorem dW_law_3071 : decode (zby mW_law) 3071 = .ok (.aload_n 2, 1) := by decide +kernel
theorem dW_law_3072 : decode (zby mW_law) 3072 = .ok (.invokevirtual 183, 3) := by decide +kernel
theorem dW_law_3075 : decode (zby mW_law) 3075 = .ok (.iload 6, 2) := by decide +kernel
theorem dW_law_3077 : decode (zby mW_law) 3077 = .ok (.if_icmp .eq 5, 3) := by decide +kernel
theorem dW_law_3082 : decode (zby mW_law) 3082 = .ok (.iload 6, 2) := by decide +kernel
theorem dW_law_3084 : decode (zby mW_law) 3084 = .ok (.ifCond .ne 15, 3) := by decide +kernel
theorem dW_law_3087 : decode (zby mW_law) 3087 = .ok (.aload_n 3, 1) := by decide +kernel
theorem dW_law_3088 : decode (zby mW_law) 3088 = .ok (.iconst 0, 1) := by decide +kernel
theorem dW_law_3089 : decode (zby mW_law) 3089 = .ok (.laload, 1) := by decide +kernel
theorem dW_law_3090 : decode (zby mW_law) 3090 = .ok (.iload 7, 2) := by decide +kernel
theorem dW_law_3092 : decode (zby mW_law) 3092 = .ok (.i2l, 1) := by decide +kernel
theorem dW_law_3093 : decode (zby mW_law) 3093 = .ok (.lcmp, 1) := by decide +kernel
theorem dW_law_3094 : decode (zby mW_law) 3094 = .ok (.ifCond .eq 5, 3) := by decide +kernel
theorem dW_law_3099 : decode (zby mW_law) 3099 = .ok (.goto 161, 3) := by decide +kernel
theorem dW_law_3102 : decode (zby mW_law) 3102 = .ok (.aload_n 1, 1) := by decide +kernel
theorem dW_law_3103 : decode (zby mW_law) 3103 = .ok (.aload_n 3, 1) := by decide +kernel
theorem dW_law_3104 : decode (zby mW_law) 3104 = .ok (.invokestatic 352, 3) := by decide +kernel
theorem dW_law_3107 : decode (zby mW_law) 3107 = .ok (.istore 6, 2) := by decide +kernel
theorem dW_law_3109 : decode (zby mW_law) 3109 = .ok (.aload_n 2, 1) := by decide +kernel
theorem dW_law_3110 : decode (zby mW_law) 3110 = .ok (.invokevirtual 354, 3) := by decide +kernel
theorem dW_law_3113 : decode (zby mW_law) 3113 = .ok (.istore 7, 2) := by decide +kernel
theorem dW_law_3115 : decode (zby mW_law) 3115 = .ok (.aload_n 2, 1) := by decide +kernel
theorem dW_law_3116 : decode (zby mW_law) 3116 = .ok (.invokevirtual 183, 3) := by decide +kernel
theorem dW_law_3119 : decode (zby mW_law) 3119 = .ok (.iload 6, 2) := by decide +kernel
theorem dW_law_3121 : decode (zby mW_law) 3121 = .ok (.if_icmp .eq 5, 3) := by decide +kernel
theorem dW_law_3126 : decode (zby mW_law) 3126 = .ok (.iload 6, 2) := by decide +kernel
theorem dW_law_3128 : decode (zby mW_law) 3128 = .ok (.ifCond .ne 15, 3) := by decide +kernel
theorem dW_law_3131 : decode (zby mW_law) 3131 = .ok (.aload_n 3, 1) := by decide +kernel
theorem dW_law_3132 : decode (zby mW_law) 3132 = .ok (.iconst 0, 1) := by decide +kernel
theorem dW_law_3133 : decode (zby mW_law) 3133 = .ok (.laload, 1) := by decide +kernel
theorem dW_law_3134 : decode (zby mW_law) 3134 = .ok (.iload 7, 2) := by decide +kernel
theorem dW_law_3136 : decode (zby mW_law) 3136 = .ok (.i2l, 1) := by decide +kernel
theorem dW_law_3137 : decode (zby mW_law) 3137 = .ok (.lcmp, 1) := by decide +kernel
theorem dW_law_3138 : decode (zby mW_law) 3138 = .ok (.ifCond .eq 5, 3) := by decide +kernel
theorem dW_law_3143 : decode (zby mW_law) 3143 = .ok (.goto 117, 3) := by decide +kernel
theorem dW_law_3146 : decode (zby mW_law) 3146 = .ok (.aload_n 1, 1) := by decide +kernel
theorem dW_law_3147 : decode (zby mW_law) 3147 = .ok (.invokevirtual 355, 3) := by decide +kernel
theorem dW_law_3150 : decode (zby mW_law) 3150 = .ok (.aload_n 2, 1) := by decide +kernel
theorem dW_law_3151 : decode (zby mW_law) 3151 = .ok (.invokevirtual 358, 3) := by decide +kernel
theorem dW_law_3154 : decode (zby mW_law) 3154 = .ok (.if_icmp .eq 106, 3) := by decide +kernel
theorem dW_law_3159 : decode (zby mW_law) 3159 = .ok (.aload_n 1, 1) := by decide +kernel
theorem dW_law_3160 : decode (zby mW_law) 3160 = .ok (.aload_n 3, 1) := by decide +kernel
theorem dW_law_3161 : decode (zby mW_law) 3161 = .ok (.invokestatic 359, 3) := by decide +kernel
theorem dW_law_3164 : decode (zby mW_law) 3164 = .ok (.istore 6, 2) := by decide +kernel
theorem dW_law_3166 : decode (zby mW_law) 3166 = .ok (.aload_n 2, 1) := by decide +kernel
theorem dW_law_3167 : decode (zby mW_law) 3167 = .ok (.invokevirtual 361, 3) := by decide +kernel
theorem dW_law_3170 : decode (zby mW_law) 3170 = .ok (.istore 7, 2) := by decide +kernel
theorem dW_law_3172 : decode (zby mW_law) 3172 = .ok (.aload_n 2, 1) := by decide +kernel
theorem dW_law_3173 : decode (zby mW_law) 3173 = .ok (.invokevirtual 183, 3) := by decide +kernel
theorem dW_law_3176 : decode (zby mW_law) 3176 = .ok (.iload 6, 2) := by decide +kernel
theorem dW_law_3178 : decode (zby mW_law) 3178 = .ok (.if_icmp .eq 5, 3) := by decide +kernel
theorem dW_law_3183 : decode (zby mW_law) 3183 = .ok (.iload 6, 2) := by decide +kernel
theorem dW_law_3185 : decode (zby mW_law) 3185 = .ok (.ifCond .ne 15, 3) := by decide +kernel
theorem dW_law_3188 : decode (zby mW_law) 3188 = .ok (.aload_n 3, 1) := by decide +kernel
theorem dW_law_3189 : decode (zby mW_law) 3189 = .ok (.iconst 0, 1) := by decide +kernel
theorem dW_law_3190 : decode (zby mW_law) 3190 = .ok (.laload, 1) := by decide +kernel
theorem dW_law_3191 : decode (zby mW_law) 3191 = .ok (.iload 7, 2) := by decide +kernel
theorem dW_law_3193 : decode (zby mW_law) 3193 = .ok (.i2l, 1) := by decide +kernel
theorem dW_law_3194 : decode (zby mW_law) 3194 = .ok (.lcmp, 1) := by decide +kernel
theorem dW_law_3195 : decode (zby mW_law) 3195 = .ok (.ifCond .eq 5, 3) := by decide +kernel
theorem dW_law_3200 : decode (zby mW_law) 3200 = .ok (.goto 60, 3) := by decide +kernel
theorem dW_law_3203 : decode (zby mW_law) 3203 = .ok (.aload_n 1, 1) := by decide +kernel
theorem dW_law_3204 : decode (zby mW_law) 3204 = .ok (.invokevirtual 362, 3) := by decide +kernel
theorem dW_law_3207 : decode (zby mW_law) 3207 = .ok (.aload_n 2, 1) := by decide +kernel
theorem dW_law_3208 : decode (zby mW_law) 3208 = .ok (.invokevirtual 365, 3) := by decide +kernel
theorem dW_law_3211 : decode (zby mW_law) 3211 = .ok (.if_icmp .eq 49, 3) := by decide +kernel
theorem dW_law_3216 : decode (zby mW_law) 3216 = .ok (.aload_n 1, 1) := by decide +kernel
theorem dW_law_3217 : decode (zby mW_law) 3217 = .ok (.aload_n 3, 1) := by decide +kernel
theorem dW_law_3218 : decode (zby mW_law) 3218 = .ok (.invokestatic 366, 3) := by decide +kernel
theorem dW_law_3221 : decode (zby mW_law) 3221 = .ok (.istore 6, 2) := by decide +kernel
theorem dW_law_3223 : decode (zby mW_law) 3223 = .ok (.aload_n 2, 1) := by decide +kernel
theorem dW_law_3224 : decode (zby mW_law) 3224 = .ok (.invokevirtual 368, 3) := by decide +kernel
theorem dW_law_3227 : decode (zby mW_law) 3227 = .ok (.istore 7, 2) := by decide +kernel
theorem dW_law_3229 : decode (zby mW_law) 3229 = .ok (.aload_n 2, 1) := by decide +kernel
theorem dW_law_3230 : decode (zby mW_law) 3230 = .ok (.invokevirtual 183, 3) := by decide +kernel
theorem dW_law_3233 : decode (zby mW_law) 3233 = .ok (.iload 6, 2) := by decide +kernel
theorem dW_law_3235 : decode (zby mW_law) 3235 = .ok (.if_icmp .eq 5, 3) := by decide +kernel
theorem dW_law_3240 : decode (zby mW_law) 3240 = .ok (.iload 6, 2) := by decide +kernel
theorem dW_law_3242 : decode (zby mW_law) 3242 = .ok (.ifCond .ne 15, 3) := by decide +kernel
theorem dW_law_3245 : decode (zby mW_law) 3245 = .ok (.aload_n 3, 1) := by decide +kernel
theorem dW_law_3246 : decode (zby mW_law) 3246 = .ok (.iconst 0, 1) := by decide +kernel
theorem dW_law_3247 : decode (zby mW_law) 3247 = .ok (.laload, 1) := by decide +kernel
theorem dW_law_3248 : decode (zby mW_law) 3248 = .ok (.iload 7, 2) := by decide +kernel
theorem dW_law_3250 : decode (zby mW_law) 3250 = .ok (.i2l, 1) := by decide +kernel
theorem dW_law_3251 : decode (zby mW_law) 3251 = .ok (.lcmp, 1) := by decide +kernel
theorem dW_law_3252 : decode (zby mW_law) 3252 = .ok (.ifCond .eq 5, 3) := by decide +kernel
theorem dW_law_3257 : decode (zby mW_law) 3257 = .ok (.goto 3, 3) := by decide +kernel
theorem dW_law_3260 : decode (zby mW_law) 3260 = .ok (.iinc 5 4, 3) := by decide +kernel
theorem dW_law_3263 : decode (zby mW_law) 3263 = .ok (.goto (-3235), 3) := by decide +kernel
theorem dW_law_3266 : decode (zby mW_law) 3266 = .ok (.iconst 1, 1) := by decide +kernel
theorem dW_law_3267 : decode (zby mW_law) 3267 = .ok (.ireturn, 1) := by decide +kernel
