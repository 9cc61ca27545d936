/-! decode rows: the law -/
theorem dL_law_2855 : decode cL_law 2855 = .ok (.istore 7, 2) := by decide +kernel
theorem dL_law_2857 : decode cL_law 2857 = .ok (.aload_n 2, 1) := by decide +kernel
theorem dL_law_2858 : decode cL_law 2858 = .ok (.invokevirtual 185, 3) := by decide +kernel
theorem dL_law_2861 : decode cL_law 2861 = .ok (.iload 6, 2) := by decide +kernel
theorem dL_law_2863 : decode cL_law 2863 = .ok (.if_icmp .eq 5, 3) := by decide +kernel
theorem dL_law_2866 : decode cL_law 2866 = .ok (.iconst 0, 1) := by decide +kernel
theorem dL_law_2867 : decode cL_law 2867 = .ok (.ireturn, 1) := by decide +kernel
theorem dL_law_2868 : decode cL_law 2868 = .ok (.iload 6, 2) := by decide +kernel
theorem dL_law_2870 : decode cL_law 2870 = .ok (.ifCond .ne 15, 3) := by decide +kernel
theorem dL_law_2873 : decode cL_law 2873 = .ok (.aload_n 3, 1) := by decide +kernel
theorem dL_law_2874 : decode cL_law 2874 = .ok (.iconst 0, 1) := by decide +kernel
theorem dL_law_2875 : decode cL_law 2875 = .ok (.laload, 1) := by decide +kernel
theorem dL_law_2876 : decode cL_law 2876 = .ok (.iload 7, 2) := by decide +kernel
theorem dL_law_2878 : decode cL_law 2878 = .ok (.i2l, 1) := by decide +kernel
theorem dL_law_2879 : decode cL_law 2879 = .ok (.lcmp, 1) := by decide +kernel
theorem dL_law_2880 : decode cL_law 2880 = .ok (.ifCond .eq 5, 3) := by decide +kernel
theorem dL_law_2883 : decode cL_law 2883 = .ok (.iconst 0, 1) := by decide +kernel
theorem dL_law_2884 : decode cL_law 2884 = .ok (.ireturn, 1) := by decide +kernel
theorem dL_law_2885 : decode cL_law 2885 = .ok (.goto 438, 3) := by decide +kernel
theorem dL_law_2888 : decode cL_law 2888 = .ok (.aload_n 1, 1) := by decide +kernel
theorem dL_law_2889 : decode cL_law 2889 = .ok (.aload_n 0, 1) := by decide +kernel
theorem dL_law_2890 : decode cL_law 2890 = .ok (.iload 5, 2) := by decide +kernel
theorem dL_law_2892 : decode cL_law 2892 = .ok (.iconst 1, 1) := by decide +kernel
theorem dL_law_2893 : decode cL_law 2893 = .ok (.iadd, 1) := by decide +kernel
theorem dL_law_2894 : decode cL_law 2894 = .ok (.iaload, 1) := by decide +kernel
theorem dL_law_2895 : decode cL_law 2895 = .ok (.aload_n 3, 1) := by decide +kernel
theorem dL_law_2896 : decode cL_law 2896 = .ok (.invokestatic 362, 3) := by decide +kernel
theorem dL_law_2899 : decode cL_law 2899 = .ok (.istore 6, 2) := by decide +kernel
theorem dL_law_2901 : decode cL_law 2901 = .ok (.aload_n 2, 1) := by decide +kernel
theorem dL_law_2902 : decode cL_law 2902 = .ok (.aload_n 0, 1) := by decide +kernel
theorem dL_law_2903 : decode cL_law 2903 = .ok (.iload 5, 2) := by decide +kernel
theorem dL_law_2905 : decode cL_law 2905 = .ok (.iconst 1, 1) := by decide +kernel
theorem dL_law_2906 : decode cL_law 2906 = .ok (.iadd, 1) := by decide +kernel
theorem dL_law_2907 : decode cL_law 2907 = .ok (.iaload, 1) := by decide +kernel
theorem dL_law_2908 : decode cL_law 2908 = .ok (.invokevirtual 364, 3) := by decide +kernel
theorem dL_law_2911 : decode cL_law 2911 = .ok (.istore 7, 2) := by decide +kernel
theorem dL_law_2913 : decode cL_law 2913 = .ok (.aload_n 2, 1) := by decide +kernel
theorem dL_law_2914 : decode cL_law 2914 = .ok (.invokevirtual 185, 3) := by decide +kernel
theorem dL_law_2917 : decode cL_law 2917 = .ok (.iload 6, 2) := by decide +kernel
theorem dL_law_2919 : decode cL_law 2919 = .ok (.if_icmp .eq 5, 3) := by decide +kernel
theorem dL_law_2922 : decode cL_law 2922 = .ok (.iconst 0, 1) := by decide +kernel
theorem dL_law_2923 : decode cL_law 2923 = .ok (.ireturn, 1) := by decide +kernel
theorem dL_law_2924 : decode cL_law 2924 = .ok (.iload 6, 2) := by decide +kernel
theorem dL_law_2926 : decode cL_law 2926 = .ok (.ifCond .ne 15, 3) := by decide +kernel
theorem dL_law_2929 : decode cL_law 2929 = .ok (.aload_n 3, 1) := by decide +kernel
theorem dL_law_2930 : decode cL_law 2930 = .ok (.iconst 0, 1) := by decide +kernel
theorem dL_law_2931 : decode cL_law 2931 = .ok (.laload, 1) := by decide +kernel
theorem dL_law_2932 : decode cL_law 2932 = .ok (.iload 7, 2) := by decide +kernel
theorem dL_law_2934 : decode cL_law 2934 = .ok (.i2l, 1) := by decide +kernel
theorem dL_law_2935 : decode cL_law 2935 = .ok (.lcmp, 1) := by decide +kernel
theorem dL_law_2936 : decode cL_law 2936 = .ok (.ifCond .eq 5, 3) := by decide +kernel
theorem dL_law_2939 : decode cL_law 2939 = .ok (.iconst 0, 1) := by decide +kernel
theorem dL_law_2940 : decode cL_law 2940 = .ok (.ireturn, 1) := by decide +kernel
theorem dL_law_2941 : decode cL_law 2941 = .ok (.goto 382, 3) := by decide +kernel
theorem dL_law_2944 : decode cL_law 2944 = .ok (.aload_n 1, 1) := by decide +kernel
theorem dL_law_2945 : decode cL_law 2945 = .ok (.aload_n 0, 1) := by decide +kernel
theorem dL_law_2946 : decode cL_law 2946 = .ok (.iload 5, 2) := by decide +kernel
theorem dL_law_2948 : decode cL_law 2948 = .ok (.iconst 1, 1) := by decide +kernel
theorem dL_law_2949 : decode cL_law 2949 = .ok (.iadd, 1) := by decide +kernel
theorem dL_law_2950 : decode cL_law 2950 = .ok (.iaload, 1) := by decide +kernel
theorem dL_law_2951 : decode cL_law 2951 = .ok (.i2c, 1) := by decide +kernel
theorem dL_law_2952 : decode cL_law 2952 = .ok (.aload_n 3, 1) := by decide +kernel
theorem dL_law_2953 : decode cL_law 2953 = .ok (.invokestatic 365, 3) := by decide +kernel
theorem dL_law_2956 : decode cL_law 2956 = .ok (.istore 6, 2) := by decide +kernel
theorem dL_law_2958 : decode cL_law 2958 = .ok (.aload_n 2, 1) := by decide +kernel
theorem dL_law_2959 : decode cL_law 2959 = .ok (.aload_n 0, 1) := by decide +kernel
theorem dL_law_2960 : decode cL_law 2960 = .ok (.iload 5, 2) := by decide +kernel
theorem dL_law_2962 : decode cL_law 2962 = .ok (.iconst 1, 1) := by decide +kernel
theorem dL_law_2963 : decode cL_law 2963 = .ok (.iadd, 1) := by decide +kernel
theorem dL_law_2964 : decode cL_law 2964 = .ok (.iaload, 1) := by decide +kernel
theorem dL_law_2965 : decode cL_law 2965 = .ok (.i2c, 1) := by decide +kernel
theorem dL_law_2966 : decode cL_law 2966 = .ok (.invokevirtual 368, 3) := by decide +kernel
theorem dL_law_2969 : decode cL_law 2969 = .ok (.istore 7, 2) := by decide +kernel
theorem dL_law_2971 : decode cL_law 2971 = .ok (.aload_n 2, 1) := by decide +kernel
theorem dL_law_2972 : decode cL_law 2972 = .ok (.invokevirtual 185, 3) := by decide +kernel
theorem dL_law_2975 : decode cL_law 2975 = .ok (.iload 6, 2) := by decide +kernel
theorem dL_law_2977 : decode cL_law 2977 = .ok (.if_icmp .eq 5, 3) := by decide +kernel
theorem dL_law_2980 : decode cL_law 2980 = .ok (.iconst 0, 1) := by decide +kernel
theorem dL_law_2981 : decode cL_law 2981 = .ok (.ireturn, 1) := by decide +kernel
theorem dL_law_2982 : decode cL_law 2982 = .ok (.iload 6, 2) := by decide +kernel
theorem dL_law_2984 : decode cL_law 2984 = .ok (.ifCond .ne 15, 3) := by decide +kernel
theorem dL_law_2987 : decode cL_law 2987 = .ok (.aload_n 3, 1) := by decide +kernel
theorem dL_law_2988 : decode cL_law 2988 = .ok (.iconst 0, 1) := by decide +kernel
theorem dL_law_2989 : decode cL_law 2989 = .ok (.laload, 1) := by decide +kernel
theorem dL_law_2990 : decode cL_law 2990 = .ok (.iload 7, 2) := by decide +kernel
theorem dL_law_2992 : decode cL_law 2992 = .ok (.i2l, 1) := by decide +kernel
theorem dL_law_2993 : decode cL_law 2993 = .ok (.lcmp, 1) := by decide +kernel
theorem dL_law_2994 : decode cL_law 2994 = .ok (.ifCond .eq 5, 3) := by decide +kernel
theorem dL_law_2997 : decode cL_law 2997 = .ok (.iconst 0, 1) := by decide +kernel
theorem dL_law_2998 : decode cL_law 2998 = .ok (.ireturn, 1) := by decide +kernel
theorem dL_law_2999 : decode cL_law 2999 = .ok (.goto 324, 3) := by decide +kernel
theorem dL_law_3002 : decode cL_law 3002 = .ok (.aload_n 1, 1) := by decide +kernel
theorem dL_law_3003 : decode cL_law 3003 = .ok (.aload_n 3, 1) := by decide +kernel
theorem dL_law_3004 : decode cL_law 3004 = .ok (.invokestatic 369, 3) := by decide +kernel
theorem dL_law_3007 : decode cL_law 3007 = .ok (.istore 6, 2) := by decide +kernel
theorem dL_law_3009 : decode cL_law 3009 = .ok (.aload_n 2, 1) := by decide +kernel
theorem dL_law_3010 : decode cL_law 3010 = .ok (.invokevirtual 372, 3) := by decide +kernel
theorem dL_law_3013 : decode cL_law 3013 = .ok (.istore 7, 2) := by decide +kernel
theorem dL_law_3015 : decode cL_law 3015 = .ok (.aload_n 2, 1) := by decide +kernel
theorem dL_law_3016 : decode cL_law 3016 = .ok (.invokevirtual 185, 3) := by decide +kernel
theorem dL_law_3019 : decode cL_law 3019 = .ok (.iload 6, 2) := by decide +kernel
theorem dL_law_3021 : decode cL_law 3021 = .ok (.if_icmp .eq 5, 3) := by decide +kernel
theorem dL_law_3024 : decode cL_law 3024 = .ok (.iconst 0, 1) := by decide +kernel
theorem dL_law_3025 : decode cL_law 3025 = .ok (.ireturn, 1) := by decide +kernel
theorem dL_law_3026 : decode cL_law 3026 = .ok (.iload 6, 2) := by decide +kernel
theorem dL_law_3028 : decode cL_law 3028 = .ok (.ifCond .ne 15, 3) := by decide +kernel
theorem dL_law_3031 : decode cL_law 3031 = .ok (.aload_n 3, 1) := by decide +kernel
theorem dL_law_3032 : decode cL_law 3032 = .ok (.iconst 0, 1) := by decide +kernel
theorem dL_law_3033 : decode cL_law 3033 = .ok (.laload, 1) := by decide +kernel
theorem dL_law_3034 : decode cL_law 3034 = .ok (.iload 7, 2) := by decide +kernel
theorem dL_law_3036 : decode cL_law 3036 = .ok (.i2l, 1) := by decide +kernel
theorem dL_law_3037 : decode cL_law 3037 = .ok (.lcmp, 1) := by decide +kernel
theorem dL_law_3038 : decode cL_law 3038 = .ok (.ifCond .eq 5, 3) := by decide +kernel
theorem dL_law_3041 : decode cL_law 3041 = .ok (.iconst 0, 1) := by decide +kernel
theorem dL_law_3042 : decode cL_law 3042 = .ok (.ireturn, 1) := by decide +kernel
theorem dL_law_3043 : decode cL_law 3043 = .ok (.goto 280, 3) := by decide +kernel
theorem dL_law_3046 : decode cL_law 3046 = .ok (.aload_n 1, 1) := by decide +kernel
theorem dL_law_3047 : decode cL_law 3047 = .ok (.aload_n 3, 1) := by decide +kernel
theorem dL_law_3048 : decode cL_law 3048 = .ok (.invokestatic 373, 3) := by decide +kernel
theorem dL_law_3051 : decode cL_law 3051 = .ok (.istore 6, 2) := by decide +kernel
theorem dL_law_3053 : decode cL_law 3053 = .ok (.aload_n 2, 1) := by decide +kernel
theorem dL_law_3054 : decode cL_law 3054 = .ok (.invokevirtual 375, 3) := by decide +kernel
theorem dL_law_3057 : decode cL_law 3057 = .ok (.istore 7, 2) := by decide +kernel
theorem dL_law_3059 : decode cL_law 3059 = .ok (.aload_n 2, 1) := by decide +kernel
theorem dL_law_3060 : decode cL_law 3060 = .ok (.invokevirtual 185, 3) := by decide +kernel
theorem dL_law_3063 : decode cL_law 3063 = .ok (.iload 6, 2) := by decide +kernel
theorem dL_law_3065 : decode cL_law 3065 = .ok (.if_icmp .eq 5, 3) := by decide +kernel
theorem dL_law_3068 : decode cL_law 3068 = .ok (.iconst 0, 1) := by decide +kernel
theorem dL_law_3069 : decode cL_law 3069 = .ok (.ireturn, 1) := by decide +kernel
theorem dL_law_3070 : decode cL_law 3070 = .ok (.iload 6, 2) := by decide +kernel
theorem dL_law_3072 : decode cL_law 3072 = .ok (.ifCond .ne 15, 3) := by decide +kernel
theorem dL_law_3075 : decode cL_law 3075 = .ok (.aload_n 3, 1) := by decide +kernel
theorem dL_law_3076 : decode cL_law 3076 = .ok (.iconst 0, 1) := by decide +kernel
theorem dL_law_3077 : decode cL_law 3077 = .ok (.laload, 1) := by decide +kernel
theorem dL_law_3078 : decode cL_law 3078 = .ok (.iload 7, 2) := by decide +kernel
theorem dL_law_3080 : decode cL_law 3080 = .ok (.i2l, 1) := by decide +kernel
theorem dL_law_3081 : decode cL_law 3081 = .ok (.lcmp, 1) := by decide +kernel
theorem dL_law_3082 : decode cL_law 3082 = .ok (.ifCond .eq 5, 3) := by decide +kernel
theorem dL_law_3085 : decode cL_law 3085 = .ok (.iconst 0, 1) := by decide +kernel
theorem dL_law_3086 : decode cL_law 3086 = .ok (.ireturn, 1) := by decide +kernel
theorem dL_law_3087 : decode cL_law 3087 = .ok (.goto 236, 3) := by decide +kernel
theorem dL_law_3090 : decode cL_law 3090 = .ok (.aload_n 1, 1) := by decide +kernel
theorem dL_law_3091 : decode cL_law 3091 = .ok (.aload_n 3, 1) := by decide +kernel
theorem dL_law_3092 : decode cL_law 3092 = .ok (.invokestatic 376, 3) := by decide +kernel
theorem dL_law_3095 : decode cL_law 3095 = .ok (.istore 6, 2) := by decide +kernel
theorem dL_law_3097 : decode cL_law 3097 = .ok (.aload_n 2, 1) := by decide +kernel
theorem dL_law_3098 : decode cL_law 3098 = .ok (.invokevirtual 378, 3) := by decide +kernel
theorem dL_law_3101 : decode cL_law 3101 = .ok (.istore 7, 2) := by decide +kernel
theorem dL_law_3103 : decode cL_law 3103 = .ok (.aload_n 2, 1) := by decide +kernel
theorem dL_law_3104 : decode cL_law 3104 = .ok (.invokevirtual 185, 3) := by decide +kernel
theorem dL_law_3107 : decode cL_law 3107 = .ok (.iload 6, 2) := by decide +kernel
theorem dL_law_3109 : decode cL_law 3109 = .ok (.if_icmp .eq 5, 3) := by decide +kernel
theorem dL_law_3112 : decode cL_law 3112 = .ok (.iconst 0, 1) := by decide +kernel
theorem dL_law_3113 : decode cL_law 3113 = .ok (.ireturn, 1) := by decide +kernel
theorem dL_law_3114 : decode cL_law 3114 = .ok (.iload 6, 2) := by decide +kernel
theorem dL_law_3116 : decode cL_law 3116 = .ok (.ifCond .ne 15, 3) := by decide +kernel
theorem dL_law_3119 : decode cL_law 3119 = .ok (.aload_n 3, 1) := by decide +kernel
theorem dL_law_3120 : decode cL_law 3120 = .ok (.iconst 0, 1) := by decide +kernel
theorem dL_law_3121 : decode cL_law 3121 = .ok (.laload, 1) := by decide +kernel
theorem dL_law_3122 : decode cL_law 3122 = .ok (.iload 7, 2) := by decide +kernel
theorem dL_law_3124 : decode cL_law 3124 = .ok (.i2l, 1) := by decide +kernel
theorem dL_law_3125 : decode cL_law 3125 = .ok (.lcmp, 1) := by decide +kernel
theorem dL_law_3126 : decode cL_law 3126 = .ok (.ifCond .eq 5, 3) := by decide +kernel
theorem dL_law_3129 : decode cL_law 3129 = .ok (.iconst 0, 1) := by decide +kernel
theorem dL_law_3130 : decode cL_law 3130 = .ok (.ireturn, 1) := by decide +kernel
theorem dL_law_3131 : decode cL_law 3131 = .ok (.goto 192, 3) := by decide +kernel
theorem dL_law_3134 : decode cL_law 3134 = .ok (.aload_n 1, 1) := by decide +kernel
theorem dL_law_3135 : decode cL_law 3135 = .ok (.aload_n 3, 1) := by decide +kernel
theorem dL_law_3136 : decode cL_law 3136 = .ok (.invokestatic 379, 3) := by decide +kernel
theorem dL_law_3139 : decode cL_law 3139 = .ok (.istore 6, 2) := by decide +kernel
theorem dL_law_3141 : decode cL_law 3141 = .ok (.aload_n 2, 1) := by decide +kernel
theorem dL_law_3142 : decode cL_law 3142 = .ok (.invokevirtual 381, 3) := by decide +kernel
theorem dL_law_3145 : decode cL_law 3145 = .ok (.istore 7, 2) := by decide +kernel
theorem dL_law_3147 : decode cL_law 3147 = .ok (.aload_n 2, 1) := by decide +kernel
theorem dL_law_3148 : decode cL_law 3148 = .ok (.invokevirtual 185, 3) := by decide +kernel
theorem dL_law_3151 : decode cL_law 3151 = .ok (.iload 6, 2) := by decide +kernel
theorem dL_law_3153 : decode cL_law 3153 = .ok (.if_icmp .eq 5, 3) := by decide +kernel
theorem dL_law_3156 : decode cL_law 3156 = .ok (.iconst 0, 1) := by decide +kernel
theorem dL_law_3157 : decode cL_law 3157 = .ok (.ireturn, 1) := by decide +kernel
theorem dL_law_3158 : decode cL_law 3158 = .ok (.iload 6, 2) := by decide +kernel
theorem dL_law_3160 : decode cL_law 3160 = .ok (.ifCond .ne 15, 3) := by decide +kernel
theorem dL_law_3163 : decode cL_law 3163 = .ok (.aload_n 3, 1) := by decide +kernel
theorem dL_law_3164 : decode cL_law 3164 = .ok (.iconst 0, 1) := by decide +kernel
theorem dL_law_3165 : decode cL_law 3165 = .ok (.laload, 1) := by decide +kernel
theorem dL_law_3166 : decode cL_law 3166 = .ok (.iload 7, 2) := by decide +kernel
theorem dL_law_3168 : decode cL_law 3168 = .ok (.i2l, 1) := by decide +kernel
theorem dL_law_3169 : decode cL_law 3169 = .ok (.lcmp, 1) := by decide +kernel
theorem dL_law_3170 : decode cL_law 3170 = .ok (.ifCond .eq 5, 3) := by decide +kernel
theorem dL_law_3173 : decode cL_law 3173 = .ok (.iconst 0, 1) := by decide +kernel
theorem dL_law_3174 : decode cL_law 3174 = .ok (.ireturn, 1) := by decide +kernel
theorem dL_law_3175 : decode cL_law 3175 = .ok (.goto 148, 3) := by decide +kernel
theorem dL_law_3178 : decode cL_law 3178 = .ok (.aload_n 1, 1) := by decide +kernel
theorem dL_law_3179 : decode cL_law 3179 = .ok (.aload_n 3, 1) := by decide +kernel
theorem dL_law_3180 : decode cL_law 3180 = .ok (.invokestatic 382, 3) := by decide +kernel
theorem dL_law_3183 : decode cL_law 3183 = .ok (.istore 6, 2) := by decide +kernel
theorem dL_law_3185 : decode cL_law 3185 = .ok (.aload_n 2, 1) := by decide +kernel
theorem dL_law_3186 : decode cL_law 3186 = .ok (.invokevirtual 384, 3) := by decide +kernel
theorem dL_law_3189 : decode cL_law 3189 = .ok (.istore 7, 2) := by decide +kernel
theorem dL_law_3191 : decode cL_law 3191 = .ok (.aload_n 2, 1) := by decide +kernel
theorem dL_law_3192 : decode cL_law 3192 = .ok (.invokevirtual 185, 3) := by decide +kernel
theorem dL_law_3195 : decode cL_law 3195 = .ok (.iload 6, 2) := by decide +kernel
theorem dL_law_3197 : decode cL_law 3197 = .ok (.if_icmp .eq 5, 3) := by decide +kernel
theorem dL_law_3200 : decode cL_law 3200 = .ok (.iconst 0, 1) := by decide +kernel
theorem dL_law_3201 : decode cL_law 3201 = .ok (.ireturn, 1) := by decide +kernel
theorem dL_law_3202 : decode cL_law 3202 = .ok (.iload 6, 2) := by decide +kernel
theorem dL_law_3204 : decode cL_law 3204 = .ok (.ifCond .ne 15, 3) := by decide +kernel
theorem dL_law_3207 : decode cL_law 3207 = .ok (.aload_n 3, 1) := by decide +kernel
theorem dL_law_3208 : decode cL_law 3208 = .ok (.iconst 0, 1) := by decide +kernel
theorem dL_law_3209 : decode cL_law 3209 = .ok (.laload, 1) := by decide +kernel
theorem dL_law_3210 : decode cL_law 3210 = .ok (.iload 7, 2) := by decide +kernel
theorem dL_law_3212 : decode cL_law 3212 = .ok (.i2l, 1) := by decide +kernel
theorem dL_law_3213 : decode cL_law 3213 = .ok (.lcmp, 1) := by decide +kernel
theorem dL_law_3214 : decode cL_law 3214 = .ok (.ifCond .eq 5, 3) := by decide +kernel
theorem dL_law_3217 : decode cL_law 3217 = .ok (.iconst 0, 1) := by decide +kernel
theorem dL_law_3218 : decode cL_law 3218 = .ok (.ireturn, 1) := by decide +kernel
theorem dL_law_3219 : decode cL_law 3219 = .ok (.goto 104, 3) := by decide +kernel
theorem dL_law_3222 : decode cL_law 3222 = .ok (.aload_n 1, 1) := by decide +kernel
theorem dL_law_3223 : decode cL_law 3223 = .ok (.aload_n 3, 1) := by decide +kernel
theorem dL_law_3224 : decode cL_law 3224 = .ok (.invokestatic 385, 3) := by decide +kernel
theorem dL_law_3227 : decode cL_law 3227 = .ok (.istore 6, 2) := by decide +kernel
theorem dL_law_3229 : decode cL_law 3229 = .ok (.aload_n 2, 1) := by decide +kernel
theorem dL_law_3230 : decode cL_law 3230 = .ok (.invokevirtual 387, 3) := by decide +kernel
theorem dL_law_3233 : decode cL_law 3233 = .ok (.istore 7, 2) := by decide +kernel
theorem dL_law_3235 : decode cL_law 3235 = .ok (.aload_n 2, 1) := by decide +kernel
theorem dL_law_3236 : decode cL_law 3236 = .ok (.invokevirtual 185, 3) := by decide +kernel
theorem dL_law_3239 : decode cL_law 3239 = .ok (.iload 6, 2) := by decide +kernel
theorem dL_law_3241 : decode cL_law 3241 = .ok (.if_icmp .eq 5, 3) := by decide +kernel
theorem dL_law_3244 : decode cL_law 3244 = .ok (.iconst 0, 1) := by decide +kernel
theorem dL_law_3245 : decode cL_law 3245 = .ok (.ireturn, 1) := by decide +kernel
theorem dL_law_3246 : decode cL_law 3246 = .ok (.iload 6, 2) := by decide +kernel
theorem dL_law_3248 : decode cL_law 3248 = .ok (.ifCond .ne 15, 3) := by decide +kernel
theorem dL_law_3251 : decode cL_law 3251 = .ok (.aload_n 3, 1) := by decide +kernel
theorem dL_law_3252 : decode cL_law 3252 = .ok (.iconst 0, 1) := by decide +kernel
theorem dL_law_3253 : decode cL_law 3253 = .ok (.laload, 1) := by decide +kernel
theorem dL_law_3254 : decode cL_law 3254 = .ok (.iload 7, 2) := by decide +kernel
theorem dL_law_3256 : decode cL_law 3256 = .ok (.i2l, 1) := by decide +kernel
theorem dL_law_3257 : decode cL_law 3257 = .ok (.lcmp, 1) := by decide +kernel
theorem dL_law_3258 : decode cL_law 3258 = .ok (.ifCond .eq 5, 3) := by decide +kernel
theorem dL_law_3261 : decode cL_law 3261 = .ok (.iconst 0, 1) := by decide +kernel
theorem dL_law_3262 : decode cL_law 3262 = .ok (.ireturn, 1) := by decide +kernel
theorem dL_law_3263 : decode cL_law 3263 = .ok (.goto 60, 3) := by decide +kernel
theorem dL_law_3266 : decode cL_law 3266 = .ok (.aload_n 1, 1) := by decide +kernel
theorem dL_law_3267 : decode cL_law 3267 = .ok (.invokevirtual 388, 3) := by decide +kernel
theorem dL_law_3270 : decode cL_law 3270 = .ok (.aload_n 2, 1) := by decide +kernel
theorem dL_law_3271 : decode cL_law 3271 = .ok (.invokevirtual 391, 3) := by decide +kernel
theorem dL_law_3274 : decode cL_law 3274 = .ok (.if_icmp .eq 49, 3) := by decide +kernel
theorem dL_law_3277 : decode cL_law 3277 = .ok (.iconst 0, 1) := by decide +kernel
theorem dL_law_3278 : decode cL_law 3278 = .ok (.ireturn, 1) := by decide +kernel
theorem dL_law_3279 : decode cL_law 3279 = .ok (.aload_n 1, 1) := by decide +kernel
theorem dL_law_3280 : decode cL_law 3280 = .ok (.aload_n 3, 1) := by decide +kernel
theorem dL_law_3281 : decode cL_law 3281 = .ok (.invokestatic 392, 3) := by decide +kernel
theorem dL_law_3284 : decode cL_law 3284 = .ok (.istore 6, 2) := by decide +kernel
theorem dL_law_3286 : decode cL_law 3286 = .ok (.aload_n 2, 1) := by decide +kernel
theorem dL_law_3287 : decode cL_law 3287 = .ok (.invokevirtual 394, 3) := by decide +kernel
theorem dL_law_3290 : decode cL_law 3290 = .ok (.istore 7, 2) := by decide +kernel
theorem dL_law_3292 : decode cL_law 3292 = .ok (.aload_n 2, 1) := by decide +kernel
theorem dL_law_3293 : decode cL_law 3293 = .ok (.invokevirtual 185, 3) := by decide +kernel
theorem dL_law_3296 : decode cL_law 3296 = .ok (.iload 6, 2) := by decide +kernel
theorem dL_law_3298 : decode cL_law 3298 = .ok (.if_icmp .eq 5, 3) := by decide +kernel
theorem dL_law_3301 : decode cL_law 3301 = .ok (.iconst 0, 1) := by decide +kernel
theorem dL_law_3302 : decode cL_law 3302 = .ok (.ireturn, 1) := by decide +kernel
theorem dL_law_3303 : decode cL_law 3303 = .ok (.iload 6, 2) := by decide +kernel
theorem dL_law_3305 : decode cL_law 3305 = .ok (.ifCond .ne 15, 3) := by decide +kernel
theorem dL_law_3308 : decode cL_law 3308 = .ok (.aload_n 3, 1) := by decide +kernel
theorem dL_law_3309 : decode cL_law 3309 = .ok (.iconst 0, 1) := by decide +kernel
theorem dL_law_3310 : decode cL_law 3310 = .ok (.laload, 1) := by decide +kernel
theorem dL_law_3311 : decode cL_law 3311 = .ok (.iload 7, 2) := by decide +kernel
theorem dL_law_3313 : decode cL_law 3313 = .ok (.i2l, 1) := by decide +kernel
theorem dL_law_3314 : decode cL_law 3314 = .ok (.lcmp, 1) := by decide +kernel
theorem dL_law_3315 : decode cL_law 3315 = .ok (.ifCond .eq 5, 3) := by decide +kernel
