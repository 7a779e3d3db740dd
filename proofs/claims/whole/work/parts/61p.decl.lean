/-! decode rows of the law, 15 -/
theorem dL_law_2953 : decode cL_law 2953 = .ok (.iload 4, 2) := by decide +kernel
theorem dL_law_2955 : decode cL_law 2955 = .ok (.iconst 2, 1) := by decide +kernel
theorem dL_law_2956 : decode cL_law 2956 = .ok (.iadd, 1) := by decide +kernel
theorem dL_law_2957 : decode cL_law 2957 = .ok (.iaload, 1) := by decide +kernel
theorem dL_law_2958 : decode cL_law 2958 = .ok (.aload_n 3, 1) := by decide +kernel
theorem dL_law_2959 : decode cL_law 2959 = .ok (.invokestatic 359, 3) := by decide +kernel
theorem dL_law_2962 : decode cL_law 2962 = .ok (.istore 5, 2) := by decide +kernel
theorem dL_law_2964 : decode cL_law 2964 = .ok (.aload_n 2, 1) := by decide +kernel
theorem dL_law_2965 : decode cL_law 2965 = .ok (.aload_n 0, 1) := by decide +kernel
theorem dL_law_2966 : decode cL_law 2966 = .ok (.iload 4, 2) := by decide +kernel
theorem dL_law_2968 : decode cL_law 2968 = .ok (.iconst 1, 1) := by decide +kernel
theorem dL_law_2969 : decode cL_law 2969 = .ok (.iadd, 1) := by decide +kernel
theorem dL_law_2970 : decode cL_law 2970 = .ok (.iaload, 1) := by decide +kernel
theorem dL_law_2971 : decode cL_law 2971 = .ok (.aload_n 0, 1) := by decide +kernel
theorem dL_law_2972 : decode cL_law 2972 = .ok (.iload 4, 2) := by decide +kernel
theorem dL_law_2974 : decode cL_law 2974 = .ok (.iconst 2, 1) := by decide +kernel
theorem dL_law_2975 : decode cL_law 2975 = .ok (.iadd, 1) := by decide +kernel
theorem dL_law_2976 : decode cL_law 2976 = .ok (.iaload, 1) := by decide +kernel
theorem dL_law_2977 : decode cL_law 2977 = .ok (.invokevirtual 361, 3) := by decide +kernel
theorem dL_law_2980 : decode cL_law 2980 = .ok (.istore 6, 2) := by decide +kernel
theorem dL_law_2982 : decode cL_law 2982 = .ok (.aload_n 2, 1) := by decide +kernel
theorem dL_law_2983 : decode cL_law 2983 = .ok (.invokevirtual 159, 3) := by decide +kernel
theorem dL_law_2986 : decode cL_law 2986 = .ok (.iload 5, 2) := by decide +kernel
theorem dL_law_2988 : decode cL_law 2988 = .ok (.if_icmp .eq 5, 3) := by decide +kernel
theorem dL_law_2993 : decode cL_law 2993 = .ok (.iload 5, 2) := by decide +kernel
theorem dL_law_2995 : decode cL_law 2995 = .ok (.ifCond .ne 15, 3) := by decide +kernel
theorem dL_law_2998 : decode cL_law 2998 = .ok (.aload_n 3, 1) := by decide +kernel
theorem dL_law_2999 : decode cL_law 2999 = .ok (.iconst 0, 1) := by decide +kernel
theorem dL_law_3000 : decode cL_law 3000 = .ok (.laload, 1) := by decide +kernel
theorem dL_law_3001 : decode cL_law 3001 = .ok (.iload 6, 2) := by decide +kernel
theorem dL_law_3003 : decode cL_law 3003 = .ok (.i2l, 1) := by decide +kernel
theorem dL_law_3004 : decode cL_law 3004 = .ok (.lcmp, 1) := by decide +kernel
theorem dL_law_3005 : decode cL_law 3005 = .ok (.ifCond .eq 5, 3) := by decide +kernel
theorem dL_law_3010 : decode cL_law 3010 = .ok (.goto 228, 3) := by decide +kernel
theorem dL_law_3013 : decode cL_law 3013 = .ok (.aload_n 1, 1) := by decide +kernel
theorem dL_law_3014 : decode cL_law 3014 = .ok (.aload_n 0, 1) := by decide +kernel
theorem dL_law_3015 : decode cL_law 3015 = .ok (.iload 4, 2) := by decide +kernel
theorem dL_law_3017 : decode cL_law 3017 = .ok (.iconst 1, 1) := by decide +kernel
theorem dL_law_3018 : decode cL_law 3018 = .ok (.iadd, 1) := by decide +kernel
theorem dL_law_3019 : decode cL_law 3019 = .ok (.iaload, 1) := by decide +kernel
theorem dL_law_3020 : decode cL_law 3020 = .ok (.aload_n 3, 1) := by decide +kernel
theorem dL_law_3021 : decode cL_law 3021 = .ok (.invokestatic 362, 3) := by decide +kernel
theorem dL_law_3024 : decode cL_law 3024 = .ok (.istore 5, 2) := by decide +kernel
theorem dL_law_3026 : decode cL_law 3026 = .ok (.aload_n 2, 1) := by decide +kernel
theorem dL_law_3027 : decode cL_law 3027 = .ok (.aload_n 0, 1) := by decide +kernel
theorem dL_law_3028 : decode cL_law 3028 = .ok (.iload 4, 2) := by decide +kernel
theorem dL_law_3030 : decode cL_law 3030 = .ok (.iconst 1, 1) := by decide +kernel
theorem dL_law_3031 : decode cL_law 3031 = .ok (.iadd, 1) := by decide +kernel
theorem dL_law_3032 : decode cL_law 3032 = .ok (.iaload, 1) := by decide +kernel
theorem dL_law_3033 : decode cL_law 3033 = .ok (.invokevirtual 364, 3) := by decide +kernel
theorem dL_law_3036 : decode cL_law 3036 = .ok (.istore 6, 2) := by decide +kernel
theorem dL_law_3038 : decode cL_law 3038 = .ok (.aload_n 2, 1) := by decide +kernel
theorem dL_law_3039 : decode cL_law 3039 = .ok (.invokevirtual 159, 3) := by decide +kernel
theorem dL_law_3042 : decode cL_law 3042 = .ok (.iload 5, 2) := by decide +kernel
theorem dL_law_3044 : decode cL_law 3044 = .ok (.if_icmp .eq 5, 3) := by decide +kernel
theorem dL_law_3049 : decode cL_law 3049 = .ok (.iload 5, 2) := by decide +kernel
theorem dL_law_3051 : decode cL_law 3051 = .ok (.ifCond .ne 15, 3) := by decide +kernel
theorem dL_law_3054 : decode cL_law 3054 = .ok (.aload_n 3, 1) := by decide +kernel
theorem dL_law_3055 : decode cL_law 3055 = .ok (.iconst 0, 1) := by decide +kernel
theorem dL_law_3056 : decode cL_law 3056 = .ok (.laload, 1) := by decide +kernel
theorem dL_law_3057 : decode cL_law 3057 = .ok (.iload 6, 2) := by decide +kernel
theorem dL_law_3059 : decode cL_law 3059 = .ok (.i2l, 1) := by decide +kernel
theorem dL_law_3060 : decode cL_law 3060 = .ok (.lcmp, 1) := by decide +kernel
theorem dL_law_3061 : decode cL_law 3061 = .ok (.ifCond .eq 5, 3) := by decide +kernel
theorem dL_law_3066 : decode cL_law 3066 = .ok (.goto 172, 3) := by decide +kernel
theorem dL_law_3069 : decode cL_law 3069 = .ok (.aload_n 1, 1) := by decide +kernel
theorem dL_law_3070 : decode cL_law 3070 = .ok (.aload_n 0, 1) := by decide +kernel
theorem dL_law_3071 : decode cL_law 3071 = .ok (.iload 4, 2) := by decide +kernel
theorem dL_law_3073 : decode cL_law 3073 = .ok (.iconst 1, 1) := by decide +kernel
theorem dL_law_3074 : decode cL_law 3074 = .ok (.iadd, 1) := by decide +kernel
theorem dL_law_3075 : decode cL_law 3075 = .ok (.iaload, 1) := by decide +kernel
theorem dL_law_3076 : decode cL_law 3076 = .ok (.aload_n 3, 1) := by decide +kernel
theorem dL_law_3077 : decode cL_law 3077 = .ok (.invokestatic 365, 3) := by decide +kernel
theorem dL_law_3080 : decode cL_law 3080 = .ok (.istore 5, 2) := by decide +kernel
theorem dL_law_3082 : decode cL_law 3082 = .ok (.aload_n 2, 1) := by decide +kernel
theorem dL_law_3083 : decode cL_law 3083 = .ok (.aload_n 0, 1) := by decide +kernel
theorem dL_law_3084 : decode cL_law 3084 = .ok (.iload 4, 2) := by decide +kernel
theorem dL_law_3086 : decode cL_law 3086 = .ok (.iconst 1, 1) := by decide +kernel
theorem dL_law_3087 : decode cL_law 3087 = .ok (.iadd, 1) := by decide +kernel
theorem dL_law_3088 : decode cL_law 3088 = .ok (.iaload, 1) := by decide +kernel
theorem dL_law_3089 : decode cL_law 3089 = .ok (.invokevirtual 367, 3) := by decide +kernel
theorem dL_law_3092 : decode cL_law 3092 = .ok (.istore 6, 2) := by decide +kernel
theorem dL_law_3094 : decode cL_law 3094 = .ok (.aload_n 2, 1) := by decide +kernel
theorem dL_law_3095 : decode cL_law 3095 = .ok (.invokevirtual 159, 3) := by decide +kernel
theorem dL_law_3098 : decode cL_law 3098 = .ok (.iload 5, 2) := by decide +kernel
theorem dL_law_3100 : decode cL_law 3100 = .ok (.if_icmp .eq 5, 3) := by decide +kernel
theorem dL_law_3105 : decode cL_law 3105 = .ok (.iload 5, 2) := by decide +kernel
theorem dL_law_3107 : decode cL_law 3107 = .ok (.ifCond .ne 15, 3) := by decide +kernel
theorem dL_law_3110 : decode cL_law 3110 = .ok (.aload_n 3, 1) := by decide +kernel
theorem dL_law_3111 : decode cL_law 3111 = .ok (.iconst 0, 1) := by decide +kernel
theorem dL_law_3112 : decode cL_law 3112 = .ok (.laload, 1) := by decide +kernel
theorem dL_law_3113 : decode cL_law 3113 = .ok (.iload 6, 2) := by decide +kernel
theorem dL_law_3115 : decode cL_law 3115 = .ok (.i2l, 1) := by decide +kernel
theorem dL_law_3116 : decode cL_law 3116 = .ok (.lcmp, 1) := by decide +kernel
theorem dL_law_3117 : decode cL_law 3117 = .ok (.ifCond .eq 5, 3) := by decide +kernel
theorem dL_law_3122 : decode cL_law 3122 = .ok (.goto 116, 3) := by decide +kernel
theorem dL_law_3125 : decode cL_law 3125 = .ok (.aload_n 1, 1) := by decide +kernel
theorem dL_law_3126 : decode cL_law 3126 = .ok (.aload_n 3, 1) := by decide +kernel
theorem dL_law_3127 : decode cL_law 3127 = .ok (.invokestatic 368, 3) := by decide +kernel
theorem dL_law_3130 : decode cL_law 3130 = .ok (.istore 5, 2) := by decide +kernel
