theorem dL_law__2880 : decode cL_law_ 2880 = .ok (.laload, 1) := by decide +kernel
theorem eL_law__2880 : zD KL_law_ 2880 (.laload) 1 2881 := ⟨dL_law__2880, rfl⟩
theorem dL_law__2881 : decode cL_law_ 2881 = .ok (.iload 6, 2) := by decide +kernel
theorem eL_law__2881 : zD KL_law_ 2881 (.iload 6) 2 2883 := ⟨dL_law__2881, rfl⟩
theorem dL_law__2883 : decode cL_law_ 2883 = .ok (.i2l, 1) := by decide +kernel
theorem eL_law__2883 : zD KL_law_ 2883 (.i2l) 1 2884 := ⟨dL_law__2883, rfl⟩
theorem dL_law__2884 : decode cL_law_ 2884 = .ok (.lcmp, 1) := by decide +kernel
theorem eL_law__2884 : zD KL_law_ 2884 (.lcmp) 1 2885 := ⟨dL_law__2884, rfl⟩
theorem dL_law__2885 : decode cL_law_ 2885 = .ok (.ifCond .eq 5, 3) := by decide +kernel
theorem eL_law__2885 : zD KL_law_ 2885 (.ifCond .eq 5) 3 2888 := ⟨dL_law__2885, rfl⟩
theorem dL_law__2888 : decode cL_law_ 2888 = .ok (.iconst 0, 1) := by decide +kernel
theorem eL_law__2888 : zD KL_law_ 2888 (.iconst 0) 1 2889 := ⟨dL_law__2888, rfl⟩
theorem dL_law__2889 : decode cL_law_ 2889 = .ok (.ireturn, 1) := by decide +kernel
theorem eL_law__2889 : zD KL_law_ 2889 (.ireturn) 1 2890 := ⟨dL_law__2889, rfl⟩
theorem dL_law__2890 : decode cL_law_ 2890 = .ok (.goto 462, 3) := by decide +kernel
theorem eL_law__2890 : zD KL_law_ 2890 (.goto 462) 3 2893 := ⟨dL_law__2890, rfl⟩
theorem dL_law__2893 : decode cL_law_ 2893 = .ok (.aload_n 1, 1) := by decide +kernel
theorem eL_law__2893 : zD KL_law_ 2893 (.aload_n 1) 1 2894 := ⟨dL_law__2893, rfl⟩
theorem dL_law__2894 : decode cL_law_ 2894 = .ok (.invokevirtual 327, 3) := by decide +kernel
theorem eL_law__2894 : zD KL_law_ 2894 (.invokevirtual 327) 3 2897 := ⟨dL_law__2894, rfl⟩
theorem dL_law__2897 : decode cL_law_ 2897 = .ok (.aload_n 2, 1) := by decide +kernel
theorem eL_law__2897 : zD KL_law_ 2897 (.aload_n 2) 1 2898 := ⟨dL_law__2897, rfl⟩
theorem dL_law__2898 : decode cL_law_ 2898 = .ok (.invokevirtual 330, 3) := by decide +kernel
theorem eL_law__2898 : zD KL_law_ 2898 (.invokevirtual 330) 3 2901 := ⟨dL_law__2898, rfl⟩
theorem dL_law__2901 : decode cL_law_ 2901 = .ok (.if_icmp .eq 451, 3) := by decide +kernel
theorem eL_law__2901 : zD KL_law_ 2901 (.if_icmp .eq 451) 3 2904 := ⟨dL_law__2901, rfl⟩
theorem dL_law__2904 : decode cL_law_ 2904 = .ok (.iconst 0, 1) := by decide +kernel
theorem eL_law__2904 : zD KL_law_ 2904 (.iconst 0) 1 2905 := ⟨dL_law__2904, rfl⟩
theorem dL_law__2905 : decode cL_law_ 2905 = .ok (.ireturn, 1) := by decide +kernel
theorem eL_law__2905 : zD KL_law_ 2905 (.ireturn) 1 2906 := ⟨dL_law__2905, rfl⟩
theorem dL_law__2906 : decode cL_law_ 2906 = .ok (.aload_n 1, 1) := by decide +kernel
theorem eL_law__2906 : zD KL_law_ 2906 (.aload_n 1) 1 2907 := ⟨dL_law__2906, rfl⟩
theorem dL_law__2907 : decode cL_law_ 2907 = .ok (.invokevirtual 331, 3) := by decide +kernel
theorem eL_law__2907 : zD KL_law_ 2907 (.invokevirtual 331) 3 2910 := ⟨dL_law__2907, rfl⟩
theorem dL_law__2910 : decode cL_law_ 2910 = .ok (.aload_n 2, 1) := by decide +kernel
theorem eL_law__2910 : zD KL_law_ 2910 (.aload_n 2) 1 2911 := ⟨dL_law__2910, rfl⟩
theorem dL_law__2911 : decode cL_law_ 2911 = .ok (.invokevirtual 334, 3) := by decide +kernel
theorem eL_law__2911 : zD KL_law_ 2911 (.invokevirtual 334) 3 2914 := ⟨dL_law__2911, rfl⟩
theorem dL_law__2914 : decode cL_law_ 2914 = .ok (.if_icmp .eq 438, 3) := by decide +kernel
theorem eL_law__2914 : zD KL_law_ 2914 (.if_icmp .eq 438) 3 2917 := ⟨dL_law__2914, rfl⟩
theorem dL_law__2917 : decode cL_law_ 2917 = .ok (.iconst 0, 1) := by decide +kernel
theorem eL_law__2917 : zD KL_law_ 2917 (.iconst 0) 1 2918 := ⟨dL_law__2917, rfl⟩
theorem dL_law__2918 : decode cL_law_ 2918 = .ok (.ireturn, 1) := by decide +kernel
theorem eL_law__2918 : zD KL_law_ 2918 (.ireturn) 1 2919 := ⟨dL_law__2918, rfl⟩
theorem dL_law__2919 : decode cL_law_ 2919 = .ok (.aload_n 1, 1) := by decide +kernel
theorem eL_law__2919 : zD KL_law_ 2919 (.aload_n 1) 1 2920 := ⟨dL_law__2919, rfl⟩
theorem dL_law__2920 : decode cL_law_ 2920 = .ok (.invokevirtual 335, 3) := by decide +kernel
theorem eL_law__2920 : zD KL_law_ 2920 (.invokevirtual 335) 3 2923 := ⟨dL_law__2920, rfl⟩
theorem dL_law__2923 : decode cL_law_ 2923 = .ok (.aload_n 2, 1) := by decide +kernel
theorem eL_law__2923 : zD KL_law_ 2923 (.aload_n 2) 1 2924 := ⟨dL_law__2923, rfl⟩
theorem dL_law__2924 : decode cL_law_ 2924 = .ok (.invokevirtual 338, 3) := by decide +kernel
theorem eL_law__2924 : zD KL_law_ 2924 (.invokevirtual 338) 3 2927 := ⟨dL_law__2924, rfl⟩
theorem dL_law__2927 : decode cL_law_ 2927 = .ok (.if_icmp .eq 425, 3) := by decide +kernel
theorem eL_law__2927 : zD KL_law_ 2927 (.if_icmp .eq 425) 3 2930 := ⟨dL_law__2927, rfl⟩
theorem dL_law__2930 : decode cL_law_ 2930 = .ok (.iconst 0, 1) := by decide +kernel
theorem eL_law__2930 : zD KL_law_ 2930 (.iconst 0) 1 2931 := ⟨dL_law__2930, rfl⟩
theorem dL_law__2931 : decode cL_law_ 2931 = .ok (.ireturn, 1) := by decide +kernel
theorem eL_law__2931 : zD KL_law_ 2931 (.ireturn) 1 2932 := ⟨dL_law__2931, rfl⟩
theorem dL_law__2932 : decode cL_law_ 2932 = .ok (.aload_n 1, 1) := by decide +kernel
theorem eL_law__2932 : zD KL_law_ 2932 (.aload_n 1) 1 2933 := ⟨dL_law__2932, rfl⟩
theorem dL_law__2933 : decode cL_law_ 2933 = .ok (.invokevirtual 339, 3) := by decide +kernel
theorem eL_law__2933 : zD KL_law_ 2933 (.invokevirtual 339) 3 2936 := ⟨dL_law__2933, rfl⟩
theorem dL_law__2936 : decode cL_law_ 2936 = .ok (.aload_n 2, 1) := by decide +kernel
theorem eL_law__2936 : zD KL_law_ 2936 (.aload_n 2) 1 2937 := ⟨dL_law__2936, rfl⟩
theorem dL_law__2937 : decode cL_law_ 2937 = .ok (.invokevirtual 342, 3) := by decide +kernel
theorem eL_law__2937 : zD KL_law_ 2937 (.invokevirtual 342) 3 2940 := ⟨dL_law__2937, rfl⟩
theorem dL_law__2940 : decode cL_law_ 2940 = .ok (.if_icmp .eq 412, 3) := by decide +kernel
theorem eL_law__2940 : zD KL_law_ 2940 (.if_icmp .eq 412) 3 2943 := ⟨dL_law__2940, rfl⟩
theorem dL_law__2943 : decode cL_law_ 2943 = .ok (.iconst 0, 1) := by decide +kernel
theorem eL_law__2943 : zD KL_law_ 2943 (.iconst 0) 1 2944 := ⟨dL_law__2943, rfl⟩
theorem dL_law__2944 : decode cL_law_ 2944 = .ok (.ireturn, 1) := by decide +kernel
theorem eL_law__2944 : zD KL_law_ 2944 (.ireturn) 1 2945 := ⟨dL_law__2944, rfl⟩
theorem dL_law__2945 : decode cL_law_ 2945 = .ok (.aload_n 1, 1) := by decide +kernel
theorem eL_law__2945 : zD KL_law_ 2945 (.aload_n 1) 1 2946 := ⟨dL_law__2945, rfl⟩
theorem dL_law__2946 : decode cL_law_ 2946 = .ok (.aload_n 0, 1) := by decide +kernel
theorem eL_law__2946 : zD KL_law_ 2946 (.aload_n 0) 1 2947 := ⟨dL_law__2946, rfl⟩
theorem dL_law__2947 : decode cL_law_ 2947 = .ok (.iload 4, 2) := by decide +kernel
theorem eL_law__2947 : zD KL_law_ 2947 (.iload 4) 2 2949 := ⟨dL_law__2947, rfl⟩
theorem dL_law__2949 : decode cL_law_ 2949 = .ok (.iconst 1, 1) := by decide +kernel
theorem eL_law__2949 : zD KL_law_ 2949 (.iconst 1) 1 2950 := ⟨dL_law__2949, rfl⟩
theorem dL_law__2950 : decode cL_law_ 2950 = .ok (.iadd, 1) := by decide +kernel
theorem eL_law__2950 : zD KL_law_ 2950 (.iadd) 1 2951 := ⟨dL_law__2950, rfl⟩
theorem dL_law__2951 : decode cL_law_ 2951 = .ok (.iaload, 1) := by decide +kernel
theorem eL_law__2951 : zD KL_law_ 2951 (.iaload) 1 2952 := ⟨dL_law__2951, rfl⟩
theorem dL_law__2952 : decode cL_law_ 2952 = .ok (.aload_n 0, 1) := by decide +kernel
theorem eL_law__2952 : zD KL_law_ 2952 (.aload_n 0) 1 2953 := ⟨dL_law__2952, rfl⟩
theorem dL_law__2953 : decode cL_law_ 2953 = .ok (.iload 4, 2) := by decide +kernel
theorem eL_law__2953 : zD KL_law_ 2953 (.iload 4) 2 2955 := ⟨dL_law__2953, rfl⟩
theorem dL_law__2955 : decode cL_law_ 2955 = .ok (.iconst 2, 1) := by decide +kernel
theorem eL_law__2955 : zD KL_law_ 2955 (.iconst 2) 1 2956 := ⟨dL_law__2955, rfl⟩
theorem dL_law__2956 : decode cL_law_ 2956 = .ok (.iadd, 1) := by decide +kernel
theorem eL_law__2956 : zD KL_law_ 2956 (.iadd) 1 2957 := ⟨dL_law__2956, rfl⟩
theorem dL_law__2957 : decode cL_law_ 2957 = .ok (.iaload, 1) := by decide +kernel
theorem eL_law__2957 : zD KL_law_ 2957 (.iaload) 1 2958 := ⟨dL_law__2957, rfl⟩
theorem dL_law__2958 : decode cL_law_ 2958 = .ok (.ifCond .eq 7, 3) := by decide +kernel
theorem eL_law__2958 : zD KL_law_ 2958 (.ifCond .eq 7) 3 2961 := ⟨dL_law__2958, rfl⟩
theorem dL_law__2961 : decode cL_law_ 2961 = .ok (.iconst 1, 1) := by decide +kernel
theorem eL_law__2961 : zD KL_law_ 2961 (.iconst 1) 1 2962 := ⟨dL_law__2961, rfl⟩
theorem dL_law__2962 : decode cL_law_ 2962 = .ok (.goto 4, 3) := by decide +kernel
theorem eL_law__2962 : zD KL_law_ 2962 (.goto 4) 3 2965 := ⟨dL_law__2962, rfl⟩
theorem dL_law__2965 : decode cL_law_ 2965 = .ok (.iconst 0, 1) := by decide +kernel
theorem eL_law__2965 : zD KL_law_ 2965 (.iconst 0) 1 2966 := ⟨dL_law__2965, rfl⟩
theorem dL_law__2966 : decode cL_law_ 2966 = .ok (.aload_n 3, 1) := by decide +kernel
theorem eL_law__2966 : zD KL_law_ 2966 (.aload_n 3) 1 2967 := ⟨dL_law__2966, rfl⟩
theorem dL_law__2967 : decode cL_law_ 2967 = .ok (.invokestatic 343, 3) := by decide +kernel
theorem eL_law__2967 : zD KL_law_ 2967 (.invokestatic 343) 3 2970 := ⟨dL_law__2967, rfl⟩
theorem dL_law__2970 : decode cL_law_ 2970 = .ok (.istore 5, 2) := by decide +kernel
theorem eL_law__2970 : zD KL_law_ 2970 (.istore 5) 2 2972 := ⟨dL_law__2970, rfl⟩
theorem dL_law__2972 : decode cL_law_ 2972 = .ok (.aload_n 2, 1) := by decide +kernel
theorem eL_law__2972 : zD KL_law_ 2972 (.aload_n 2) 1 2973 := ⟨dL_law__2972, rfl⟩
theorem dL_law__2973 : decode cL_law_ 2973 = .ok (.aload_n 0, 1) := by decide +kernel
theorem eL_law__2973 : zD KL_law_ 2973 (.aload_n 0) 1 2974 := ⟨dL_law__2973, rfl⟩
theorem dL_law__2974 : decode cL_law_ 2974 = .ok (.iload 4, 2) := by decide +kernel
theorem eL_law__2974 : zD KL_law_ 2974 (.iload 4) 2 2976 := ⟨dL_law__2974, rfl⟩
theorem dL_law__2976 : decode cL_law_ 2976 = .ok (.iconst 1, 1) := by decide +kernel
theorem eL_law__2976 : zD KL_law_ 2976 (.iconst 1) 1 2977 := ⟨dL_law__2976, rfl⟩
theorem dL_law__2977 : decode cL_law_ 2977 = .ok (.iadd, 1) := by decide +kernel
theorem eL_law__2977 : zD KL_law_ 2977 (.iadd) 1 2978 := ⟨dL_law__2977, rfl⟩
theorem dL_law__2978 : decode cL_law_ 2978 = .ok (.iaload, 1) := by decide +kernel
theorem eL_law__2978 : zD KL_law_ 2978 (.iaload) 1 2979 := ⟨dL_law__2978, rfl⟩
theorem dL_law__2979 : decode cL_law_ 2979 = .ok (.aload_n 0, 1) := by decide +kernel
theorem eL_law__2979 : zD KL_law_ 2979 (.aload_n 0) 1 2980 := ⟨dL_law__2979, rfl⟩
theorem dL_law__2980 : decode cL_law_ 2980 = .ok (.iload 4, 2) := by decide +kernel
theorem eL_law__2980 : zD KL_law_ 2980 (.iload 4) 2 2982 := ⟨dL_law__2980, rfl⟩
theorem dL_law__2982 : decode cL_law_ 2982 = .ok (.iconst 2, 1) := by decide +kernel
theorem eL_law__2982 : zD KL_law_ 2982 (.iconst 2) 1 2983 := ⟨dL_law__2982, rfl⟩
theorem dL_law__2983 : decode cL_law_ 2983 = .ok (.iadd, 1) := by decide +kernel
theorem eL_law__2983 : zD KL_law_ 2983 (.iadd) 1 2984 := ⟨dL_law__2983, rfl⟩
theorem dL_law__2984 : decode cL_law_ 2984 = .ok (.iaload, 1) := by decide +kernel
theorem eL_law__2984 : zD KL_law_ 2984 (.iaload) 1 2985 := ⟨dL_law__2984, rfl⟩
theorem dL_law__2985 : decode cL_law_ 2985 = .ok (.ifCond .eq 7, 3) := by decide +kernel
theorem eL_law__2985 : zD KL_law_ 2985 (.ifCond .eq 7) 3 2988 := ⟨dL_law__2985, rfl⟩
theorem dL_law__2988 : decode cL_law_ 2988 = .ok (.iconst 1, 1) := by decide +kernel
theorem eL_law__2988 : zD KL_law_ 2988 (.iconst 1) 1 2989 := ⟨dL_law__2988, rfl⟩
theorem dL_law__2989 : decode cL_law_ 2989 = .ok (.goto 4, 3) := by decide +kernel
theorem eL_law__2989 : zD KL_law_ 2989 (.goto 4) 3 2992 := ⟨dL_law__2989, rfl⟩
theorem dL_law__2992 : decode cL_law_ 2992 = .ok (.iconst 0, 1) := by decide +kernel
theorem eL_law__2992 : zD KL_law_ 2992 (.iconst 0) 1 2993 := ⟨dL_law__2992, rfl⟩
theorem dL_law__2993 : decode cL_law_ 2993 = .ok (.invokevirtual 345, 3) := by decide +kernel
theorem eL_law__2993 : zD KL_law_ 2993 (.invokevirtual 345) 3 2996 := ⟨dL_law__2993, rfl⟩
theorem dL_law__2996 : decode cL_law_ 2996 = .ok (.istore 6, 2) := by decide +kernel
theorem eL_law__2996 : zD KL_law_ 2996 (.istore 6) 2 2998 := ⟨dL_law__2996, rfl⟩
theorem dL_law__2998 : decode cL_law_ 2998 = .ok (.aload_n 2, 1) := by decide +kernel
theorem eL_law__2998 : zD KL_law_ 2998 (.aload_n 2) 1 2999 := ⟨dL_law__2998, rfl⟩
theorem dL_law__2999 : decode cL_law_ 2999 = .ok (.invokevirtual 170, 3) := by decide +kernel
theorem eL_law__2999 : zD KL_law_ 2999 (.invokevirtual 170) 3 3002 := ⟨dL_law__2999, rfl⟩
theorem dL_law__3002 : decode cL_law_ 3002 = .ok (.iload 5, 2) := by decide +kernel
theorem eL_law__3002 : zD KL_law_ 3002 (.iload 5) 2 3004 := ⟨dL_law__3002, rfl⟩
theorem dL_law__3004 : decode cL_law_ 3004 = .ok (.if_icmp .eq 5, 3) := by decide +kernel
theorem eL_law__3004 : zD KL_law_ 3004 (.if_icmp .eq 5) 3 3007 := ⟨dL_law__3004, rfl⟩
theorem dL_law__3007 : decode cL_law_ 3007 = .ok (.iconst 0, 1) := by decide +kernel
theorem eL_law__3007 : zD KL_law_ 3007 (.iconst 0) 1 3008 := ⟨dL_law__3007, rfl⟩
theorem dL_law__3008 : decode cL_law_ 3008 = .ok (.ireturn, 1) := by decide +kernel
theorem eL_law__3008 : zD KL_law_ 3008 (.ireturn) 1 3009 := ⟨dL_law__3008, rfl⟩
theorem dL_law__3009 : decode cL_law_ 3009 = .ok (.iload 5, 2) := by decide +kernel
theorem eL_law__3009 : zD KL_law_ 3009 (.iload 5) 2 3011 := ⟨dL_law__3009, rfl⟩
theorem dL_law__3011 : decode cL_law_ 3011 = .ok (.ifCond .ne 15, 3) := by decide +kernel
theorem eL_law__3011 : zD KL_law_ 3011 (.ifCond .ne 15) 3 3014 := ⟨dL_law__3011, rfl⟩
theorem dL_law__3014 : decode cL_law_ 3014 = .ok (.aload_n 3, 1) := by decide +kernel
theorem eL_law__3014 : zD KL_law_ 3014 (.aload_n 3) 1 3015 := ⟨dL_law__3014, rfl⟩
theorem dL_law__3015 : decode cL_law_ 3015 = .ok (.iconst 0, 1) := by decide +kernel
theorem eL_law__3015 : zD KL_law_ 3015 (.iconst 0) 1 3016 := ⟨dL_law__3015, rfl⟩
theorem dL_law__3016 : decode cL_law_ 3016 = .ok (.laload, 1) := by decide +kernel
theorem eL_law__3016 : zD KL_law_ 3016 (.laload) 1 3017 := ⟨dL_law__3016, rfl⟩
theorem dL_law__3017 : decode cL_law_ 3017 = .ok (.iload 6, 2) := by decide +kernel
theorem eL_law__3017 : zD KL_law_ 3017 (.iload 6) 2 3019 := ⟨dL_law__3017, rfl⟩
theorem dL_law__3019 : decode cL_law_ 3019 = .ok (.i2l, 1) := by decide +kernel
theorem eL_law__3019 : zD KL_law_ 3019 (.i2l) 1 3020 := ⟨dL_law__3019, rfl⟩
theorem dL_law__3020 : decode cL_law_ 3020 = .ok (.lcmp, 1) := by decide +kernel
theorem eL_law__3020 : zD KL_law_ 3020 (.lcmp) 1 3021 := ⟨dL_law__3020, rfl⟩
theorem dL_law__3021 : decode cL_law_ 3021 = .ok (.ifCond .eq 5, 3) := by decide +kernel
theorem eL_law__3021 : zD KL_law_ 3021 (.ifCond .eq 5) 3 3024 := ⟨dL_law__3021, rfl⟩
theorem dL_law__3024 : decode cL_law_ 3024 = .ok (.iconst 0, 1) := by decide +kernel
theorem eL_law__3024 : zD KL_law_ 3024 (.iconst 0) 1 3025 := ⟨dL_law__3024, rfl⟩
theorem dL_law__3025 : decode cL_law_ 3025 = .ok (.ireturn, 1) := by decide +kernel
theorem eL_law__3025 : zD KL_law_ 3025 (.ireturn) 1 3026 := ⟨dL_law__3025, rfl⟩
theorem dL_law__3026 : decode cL_law_ 3026 = .ok (.goto 326, 3) := by decide +kernel
theorem eL_law__3026 : zD KL_law_ 3026 (.goto 326) 3 3029 := ⟨dL_law__3026, rfl⟩
theorem dL_law__3029 : decode cL_law_ 3029 = .ok (.aload_n 1, 1) := by decide +kernel
theorem eL_law__3029 : zD KL_law_ 3029 (.aload_n 1) 1 3030 := ⟨dL_law__3029, rfl⟩
theorem dL_law__3030 : decode cL_law_ 3030 = .ok (.aload_n 0, 1) := by decide +kernel
theorem eL_law__3030 : zD KL_law_ 3030 (.aload_n 0) 1 3031 := ⟨dL_law__3030, rfl⟩
theorem dL_law__3031 : decode cL_law_ 3031 = .ok (.iload 4, 2) := by decide +kernel
theorem eL_law__3031 : zD KL_law_ 3031 (.iload 4) 2 3033 := ⟨dL_law__3031, rfl⟩
theorem dL_law__3033 : decode cL_law_ 3033 = .ok (.iconst 1, 1) := by decide +kernel
theorem eL_law__3033 : zD KL_law_ 3033 (.iconst 1) 1 3034 := ⟨dL_law__3033, rfl⟩
theorem dL_law__3034 : decode cL_law_ 3034 = .ok (.iadd, 1) := by decide +kernel
theorem eL_law__3034 : zD KL_law_ 3034 (.iadd) 1 3035 := ⟨dL_law__3034, rfl⟩
theorem dL_law__3035 : decode cL_law_ 3035 = .ok (.iaload, 1) := by decide +kernel
theorem eL_law__3035 : zD KL_law_ 3035 (.iaload) 1 3036 := ⟨dL_law__3035, rfl⟩
theorem dL_law__3036 : decode cL_law_ 3036 = .ok (.aload_n 0, 1) := by decide +kernel
theorem eL_law__3036 : zD KL_law_ 3036 (.aload_n 0) 1 3037 := ⟨dL_law__3036, rfl⟩
theorem dL_law__3037 : decode cL_law_ 3037 = .ok (.iload 4, 2) := by decide +kernel
theorem eL_law__3037 : zD KL_law_ 3037 (.iload 4) 2 3039 := ⟨dL_law__3037, rfl⟩
theorem dL_law__3039 : decode cL_law_ 3039 = .ok (.iconst 2, 1) := by decide +kernel
theorem eL_law__3039 : zD KL_law_ 3039 (.iconst 2) 1 3040 := ⟨dL_law__3039, rfl⟩
theorem dL_law__3040 : decode cL_law_ 3040 = .ok (.iadd, 1) := by decide +kernel
theorem eL_law__3040 : zD KL_law_ 3040 (.iadd) 1 3041 := ⟨dL_law__3040, rfl⟩
theorem dL_law__3041 : decode cL_law_ 3041 = .ok (.iaload, 1) := by decide +kernel
theorem eL_law__3041 : zD KL_law_ 3041 (.iaload) 1 3042 := ⟨dL_law__3041, rfl⟩
theorem dL_law__3042 : decode cL_law_ 3042 = .ok (.ifCond .eq 7, 3) := by decide +kernel
theorem eL_law__3042 : zD KL_law_ 3042 (.ifCond .eq 7) 3 3045 := ⟨dL_law__3042, rfl⟩
theorem dL_law__3045 : decode cL_law_ 3045 = .ok (.iconst 1, 1) := by decide +kernel
theorem eL_law__3045 : zD KL_law_ 3045 (.iconst 1) 1 3046 := ⟨dL_law__3045, rfl⟩
theorem dL_law__3046 : decode cL_law_ 3046 = .ok (.goto 4, 3) := by decide +kernel
theorem eL_law__3046 : zD KL_law_ 3046 (.goto 4) 3 3049 := ⟨dL_law__3046, rfl⟩
theorem dL_law__3049 : decode cL_law_ 3049 = .ok (.iconst 0, 1) := by decide +kernel
theorem eL_law__3049 : zD KL_law_ 3049 (.iconst 0) 1 3050 := ⟨dL_law__3049, rfl⟩
theorem dL_law__3050 : decode cL_law_ 3050 = .ok (.aload_n 3, 1) := by decide +kernel
theorem eL_law__3050 : zD KL_law_ 3050 (.aload_n 3) 1 3051 := ⟨dL_law__3050, rfl⟩
theorem dL_law__3051 : decode cL_law_ 3051 = .ok (.invokestatic 346, 3) := by decide +kernel
theorem eL_law__3051 : zD KL_law_ 3051 (.invokestatic 346) 3 3054 := ⟨dL_law__3051, rfl⟩
theorem dL_law__3054 : decode cL_law_ 3054 = .ok (.istore 5, 2) := by decide +kernel
theorem eL_law__3054 : zD KL_law_ 3054 (.istore 5) 2 3056 := ⟨dL_law__3054, rfl⟩
theorem dL_law__3056 : decode cL_law_ 3056 = .ok (.aload_n 2, 1) := by decide +kernel
theorem eL_law__3056 : zD KL_law_ 3056 (.aload_n 2) 1 3057 := ⟨dL_law__3056, rfl⟩
theorem dL_law__3057 : decode cL_law_ 3057 = .ok (.aload_n 0, 1) := by decide +kernel
theorem eL_law__3057 : zD KL_law_ 3057 (.aload_n 0) 1 3058 := ⟨dL_law__3057, rfl⟩
theorem dL_law__3058 : decode cL_law_ 3058 = .ok (.iload 4, 2) := by decide +kernel
theorem eL_law__3058 : zD KL_law_ 3058 (.iload 4) 2 3060 := ⟨dL_law__3058, rfl⟩
theorem dL_law__3060 : decode cL_law_ 3060 = .ok (.iconst 1, 1) := by decide +kernel
theorem eL_law__3060 : zD KL_law_ 3060 (.iconst 1) 1 3061 := ⟨dL_law__3060, rfl⟩
theorem dL_law__3061 : decode cL_law_ 3061 = .ok (.iadd, 1) := by decide +kernel
theorem eL_law__3061 : zD KL_law_ 3061 (.iadd) 1 3062 := ⟨dL_law__3061, rfl⟩
theorem dL_law__3062 : decode cL_law_ 3062 = .ok (.iaload, 1) := by decide +kernel
theorem eL_law__3062 : zD KL_law_ 3062 (.iaload) 1 3063 := ⟨dL_law__3062, rfl⟩
theorem dL_law__3063 : decode cL_law_ 3063 = .ok (.aload_n 0, 1) := by decide +kernel
theorem eL_law__3063 : zD KL_law_ 3063 (.aload_n 0) 1 3064 := ⟨dL_law__3063, rfl⟩
theorem dL_law__3064 : decode cL_law_ 3064 = .ok (.iload 4, 2) := by decide +kernel
theorem eL_law__3064 : zD KL_law_ 3064 (.iload 4) 2 3066 := ⟨dL_law__3064, rfl⟩
theorem dL_law__3066 : decode cL_law_ 3066 = .ok (.iconst 2, 1) := by decide +kernel
theorem eL_law__3066 : zD KL_law_ 3066 (.iconst 2) 1 3067 := ⟨dL_law__3066, rfl⟩
theorem dL_law__3067 : decode cL_law_ 3067 = .ok (.iadd, 1) := by decide +kernel
theorem eL_law__3067 : zD KL_law_ 3067 (.iadd) 1 3068 := ⟨dL_law__3067, rfl⟩
theorem dL_law__3068 : decode cL_law_ 3068 = .ok (.iaload, 1) := by decide +kernel
theorem eL_law__3068 : zD KL_law_ 3068 (.iaload) 1 3069 := ⟨dL_law__3068, rfl⟩
theorem dL_law__3069 : decode cL_law_ 3069 = .ok (.ifCond .eq 7, 3) := by decide +kernel
theorem eL_law__3069 : zD KL_law_ 3069 (.ifCond .eq 7) 3 3072 := ⟨dL_law__3069, rfl⟩
theorem dL_law__3072 : decode cL_law_ 3072 = .ok (.iconst 1, 1) := by decide +kernel
theorem eL_law__3072 : zD KL_law_ 3072 (.iconst 1) 1 3073 := ⟨dL_law__3072, rfl⟩
theorem dL_law__3073 : decode cL_law_ 3073 = .ok (.goto 4, 3) := by decide +kernel
theorem eL_law__3073 : zD KL_law_ 3073 (.goto 4) 3 3076 := ⟨dL_law__3073, rfl⟩
theorem dL_law__3076 : decode cL_law_ 3076 = .ok (.iconst 0, 1) := by decide +kernel
theorem eL_law__3076 : zD KL_law_ 3076 (.iconst 0) 1 3077 := ⟨dL_law__3076, rfl⟩
theorem dL_law__3077 : decode cL_law_ 3077 = .ok (.invokevirtual 348, 3) := by decide +kernel
theorem eL_law__3077 : zD KL_law_ 3077 (.invokevirtual 348) 3 3080 := ⟨dL_law__3077, rfl⟩
theorem dL_law__3080 : decode cL_law_ 3080 = .ok (.istore 6, 2) := by decide +kernel
theorem eL_law__3080 : zD KL_law_ 3080 (.istore 6) 2 3082 := ⟨dL_law__3080, rfl⟩
theorem dL_law__3082 : decode cL_law_ 3082 = .ok (.aload_n 2, 1) := by decide +kernel
theorem eL_law__3082 : zD KL_law_ 3082 (.aload_n 2) 1 3083 := ⟨dL_law__3082, rfl⟩
theorem dL_law__3083 : decode cL_law_ 3083 = .ok (.invokevirtual 170, 3) := by decide +kernel
theorem eL_law__3083 : zD KL_law_ 3083 (.invokevirtual 170) 3 3086 := ⟨dL_law__3083, rfl⟩
theorem dL_law__3086 : decode cL_law_ 3086 = .ok (.iload 5, 2) := by decide +kernel
theorem eL_law__3086 : zD KL_law_ 3086 (.iload 5) 2 3088 := ⟨dL_law__3086, rfl⟩
theorem dL_law__3088 : decode cL_law_ 3088 = .ok (.if_icmp .eq 5, 3) := by decide +kernel
theorem eL_law__3088 : zD KL_law_ 3088 (.if_icmp .eq 5) 3 3091 := ⟨dL_law__3088, rfl⟩
theorem dL_law__3091 : decode cL_law_ 3091 = .ok (.iconst 0, 1) := by decide +kernel
theorem eL_law__3091 : zD KL_law_ 3091 (.iconst 0) 1 3092 := ⟨dL_law__3091, rfl⟩
theorem dL_law__3092 : decode cL_law_ 3092 = .ok (.ireturn, 1) := by decide +kernel
theorem eL_law__3092 : zD KL_law_ 3092 (.ireturn) 1 3093 := ⟨dL_law__3092, rfl⟩
theorem dL_law__3093 : decode cL_law_ 3093 = .ok (.iload 5, 2) := by decide +kernel
theorem eL_law__3093 : zD KL_law_ 3093 (.iload 5) 2 3095 := ⟨dL_law__3093, rfl⟩
theorem dL_law__3095 : decode cL_law_ 3095 = .ok (.ifCond .ne 15, 3) := by decide +kernel
theorem eL_law__3095 : zD KL_law_ 3095 (.ifCond .ne 15) 3 3098 := ⟨dL_law__3095, rfl⟩
theorem dL_law__3098 : decode cL_law_ 3098 = .ok (.aload_n 3, 1) := by decide +kernel
theorem eL_law__3098 : zD KL_law_ 3098 (.aload_n 3) 1 3099 := ⟨dL_law__3098, rfl⟩
theorem dL_law__3099 : decode cL_law_ 3099 = .ok (.iconst 0, 1) := by decide +kernel
theorem eL_law__3099 : zD KL_law_ 3099 (.iconst 0) 1 3100 := ⟨dL_law__3099, rfl⟩
theorem dL_law__3100 : decode cL_law_ 3100 = .ok (.laload, 1) := by decide +kernel
theorem eL_law__3100 : zD KL_law_ 3100 (.laload) 1 3101 := ⟨dL_law__3100, rfl⟩
theorem dL_law__3101 : decode cL_law_ 3101 = .ok (.iload 6, 2) := by decide +kernel
theorem eL_law__3101 : zD KL_law_ 3101 (.iload 6) 2 3103 := ⟨dL_law__3101, rfl⟩
theorem dL_law__3103 : decode cL_law_ 3103 = .ok (.i2l, 1) := by decide +kernel
theorem eL_law__3103 : zD KL_law_ 3103 (.i2l) 1 3104 := ⟨dL_law__3103, rfl⟩
theorem dL_law__3104 : decode cL_law_ 3104 = .ok (.lcmp, 1) := by decide +kernel
theorem eL_law__3104 : zD KL_law_ 3104 (.lcmp) 1 3105 := ⟨dL_law__3104, rfl⟩
theorem dL_law__3105 : decode cL_law_ 3105 = .ok (.ifCond .eq 5, 3) := by decide +kernel
theorem eL_law__3105 : zD KL_law_ 3105 (.ifCond .eq 5) 3 3108 := ⟨dL_law__3105, rfl⟩
theorem dL_law__3108 : decode cL_law_ 3108 = .ok (.iconst 0, 1) := by decide +kernel
theorem eL_law__3108 : zD KL_law_ 3108 (.iconst 0) 1 3109 := ⟨dL_law__3108, rfl⟩
theorem dL_law__3109 : decode cL_law_ 3109 = .ok (.ireturn, 1) := by decide +kernel
theorem eL_law__3109 : zD KL_law_ 3109 (.ireturn) 1 3110 := ⟨dL_law__3109, rfl⟩
theorem dL_law__3110 : decode cL_law_ 3110 = .ok (.goto 242, 3) := by decide +kernel
theorem eL_law__3110 : zD KL_law_ 3110 (.goto 242) 3 3113 := ⟨dL_law__3110, rfl⟩
theorem dL_law__3113 : decode cL_law_ 3113 = .ok (.aload_n 1, 1) := by decide +kernel
theorem eL_law__3113 : zD KL_law_ 3113 (.aload_n 1) 1 3114 := ⟨dL_law__3113, rfl⟩
theorem dL_law__3114 : decode cL_law_ 3114 = .ok (.aload_n 0, 1) := by decide +kernel
theorem eL_law__3114 : zD KL_law_ 3114 (.aload_n 0) 1 3115 := ⟨dL_law__3114, rfl⟩
theorem dL_law__3115 : decode cL_law_ 3115 = .ok (.iload 4, 2) := by decide +kernel
theorem eL_law__3115 : zD KL_law_ 3115 (.iload 4) 2 3117 := ⟨dL_law__3115, rfl⟩
theorem dL_law__3117 : decode cL_law_ 3117 = .ok (.iconst 1, 1) := by decide +kernel
theorem eL_law__3117 : zD KL_law_ 3117 (.iconst 1) 1 3118 := ⟨dL_law__3117, rfl⟩
theorem dL_law__3118 : decode cL_law_ 3118 = .ok (.iadd, 1) := by decide +kernel
theorem eL_law__3118 : zD KL_law_ 3118 (.iadd) 1 3119 := ⟨dL_law__3118, rfl⟩
theorem dL_law__3119 : decode cL_law_ 3119 = .ok (.iaload, 1) := by decide +kernel
theorem eL_law__3119 : zD KL_law_ 3119 (.iaload) 1 3120 := ⟨dL_law__3119, rfl⟩
theorem dL_law__3120 : decode cL_law_ 3120 = .ok (.aload_n 0, 1) := by decide +kernel
theorem eL_law__3120 : zD KL_law_ 3120 (.aload_n 0) 1 3121 := ⟨dL_law__3120, rfl⟩
theorem dL_law__3121 : decode cL_law_ 3121 = .ok (.iload 4, 2) := by decide +kernel
theorem eL_law__3121 : zD KL_law_ 3121 (.iload 4) 2 3123 := ⟨dL_law__3121, rfl⟩
theorem dL_law__3123 : decode cL_law_ 3123 = .ok (.iconst 2, 1) := by decide +kernel
theorem eL_law__3123 : zD KL_law_ 3123 (.iconst 2) 1 3124 := ⟨dL_law__3123, rfl⟩
theorem dL_law__3124 : decode cL_law_ 3124 = .ok (.iadd, 1) := by decide +kernel
theorem eL_law__3124 : zD KL_law_ 3124 (.iadd) 1 3125 := ⟨dL_law__3124, rfl⟩
theorem dL_law__3125 : decode cL_law_ 3125 = .ok (.iaload, 1) := by decide +kernel
theorem eL_law__3125 : zD KL_law_ 3125 (.iaload) 1 3126 := ⟨dL_law__3125, rfl⟩
theorem dL_law__3126 : decode cL_law_ 3126 = .ok (.ifCond .eq 7, 3) := by decide +kernel
theorem eL_law__3126 : zD KL_law_ 3126 (.ifCond .eq 7) 3 3129 := ⟨dL_law__3126, rfl⟩
theorem dL_law__3129 : decode cL_law_ 3129 = .ok (.iconst 1, 1) := by decide +kernel
theorem eL_law__3129 : zD KL_law_ 3129 (.iconst 1) 1 3130 := ⟨dL_law__3129, rfl⟩
theorem dL_law__3130 : decode cL_law_ 3130 = .ok (.goto 4, 3) := by decide +kernel
theorem eL_law__3130 : zD KL_law_ 3130 (.goto 4) 3 3133 := ⟨dL_law__3130, rfl⟩
theorem dL_law__3133 : decode cL_law_ 3133 = .ok (.iconst 0, 1) := by decide +kernel
theorem eL_law__3133 : zD KL_law_ 3133 (.iconst 0) 1 3134 := ⟨dL_law__3133, rfl⟩
theorem dL_law__3134 : decode cL_law_ 3134 = .ok (.aload_n 3, 1) := by decide +kernel
theorem eL_law__3134 : zD KL_law_ 3134 (.aload_n 3) 1 3135 := ⟨dL_law__3134, rfl⟩
theorem dL_law__3135 : decode cL_law_ 3135 = .ok (.invokestatic 349, 3) := by decide +kernel
theorem eL_law__3135 : zD KL_law_ 3135 (.invokestatic 349) 3 3138 := ⟨dL_law__3135, rfl⟩
theorem dL_law__3138 : decode cL_law_ 3138 = .ok (.istore 5, 2) := by decide +kernel
theorem eL_law__3138 : zD KL_law_ 3138 (.istore 5) 2 3140 := ⟨dL_law__3138, rfl⟩
theorem dL_law__3140 : decode cL_law_ 3140 = .ok (.aload_n 2, 1) := by decide +kernel
theorem eL_law__3140 : zD KL_law_ 3140 (.aload_n 2) 1 3141 := ⟨dL_law__3140, rfl⟩
theorem dL_law__3141 : decode cL_law_ 3141 = .ok (.aload_n 0, 1) := by decide +kernel
theorem eL_law__3141 : zD KL_law_ 3141 (.aload_n 0) 1 3142 := ⟨dL_law__3141, rfl⟩
theorem dL_law__3142 : decode cL_law_ 3142 = .ok (.iload 4, 2) := by decide +kernel
theorem eL_law__3142 : zD KL_law_ 3142 (.iload 4) 2 3144 := ⟨dL_law__3142, rfl⟩
theorem dL_law__3144 : decode cL_law_ 3144 = .ok (.iconst 1, 1) := by decide +kernel
theorem eL_law__3144 : zD KL_law_ 3144 (.iconst 1) 1 3145 := ⟨dL_law__3144, rfl⟩
theorem dL_law__3145 : decode cL_law_ 3145 = .ok (.iadd, 1) := by decide +kernel
theorem eL_law__3145 : zD KL_law_ 3145 (.iadd) 1 3146 := ⟨dL_law__3145, rfl⟩
theorem dL_law__3146 : decode cL_law_ 3146 = .ok (.iaload, 1) := by decide +kernel
theorem eL_law__3146 : zD KL_law_ 3146 (.iaload) 1 3147 := ⟨dL_law__3146, rfl⟩
theorem dL_law__3147 : decode cL_law_ 3147 = .ok (.aload_n 0, 1) := by decide +kernel
theorem eL_law__3147 : zD KL_law_ 3147 (.aload_n 0) 1 3148 := ⟨dL_law__3147, rfl⟩
theorem dL_law__3148 : decode cL_law_ 3148 = .ok (.iload 4, 2) := by decide +kernel
theorem eL_law__3148 : zD KL_law_ 3148 (.iload 4) 2 3150 := ⟨dL_law__3148, rfl⟩
theorem dL_law__3150 : decode cL_law_ 3150 = .ok (.iconst 2, 1) := by decide +kernel
theorem eL_law__3150 : zD KL_law_ 3150 (.iconst 2) 1 3151 := ⟨dL_law__3150, rfl⟩
theorem dL_law__3151 : decode cL_law_ 3151 = .ok (.iadd, 1) := by decide +kernel
theorem eL_law__3151 : zD KL_law_ 3151 (.iadd) 1 3152 := ⟨dL_law__3151, rfl⟩
theorem dL_law__3152 : decode cL_law_ 3152 = .ok (.iaload, 1) := by decide +kernel
theorem eL_law__3152 : zD KL_law_ 3152 (.iaload) 1 3153 := ⟨dL_law__3152, rfl⟩
theorem dL_law__3153 : decode cL_law_ 3153 = .ok (.ifCond .eq 7, 3) := by decide +kernel
theorem eL_law__3153 : zD KL_law_ 3153 (.ifCond .eq 7) 3 3156 := ⟨dL_law__3153, rfl⟩
theorem dL_law__3156 : decode cL_law_ 3156 = .ok (.iconst 1, 1) := by decide +kernel
theorem eL_law__3156 : zD KL_law_ 3156 (.iconst 1) 1 3157 := ⟨dL_law__3156, rfl⟩
theorem dL_law__3157 : decode cL_law_ 3157 = .ok (.goto 4, 3) := by decide +kernel
theorem eL_law__3157 : zD KL_law_ 3157 (.goto 4) 3 3160 := ⟨dL_law__3157, rfl⟩
theorem dL_law__3160 : decode cL_law_ 3160 = .ok (.iconst 0, 1) := by decide +kernel
theorem eL_law__3160 : zD KL_law_ 3160 (.iconst 0) 1 3161 := ⟨dL_law__3160, rfl⟩
theorem dL_law__3161 : decode cL_law_ 3161 = .ok (.invokevirtual 351, 3) := by decide +kernel
theorem eL_law__3161 : zD KL_law_ 3161 (.invokevirtual 351) 3 3164 := ⟨dL_law__3161, rfl⟩
theorem dL_law__3164 : decode cL_law_ 3164 = .ok (.istore 6, 2) := by decide +kernel
theorem eL_law__3164 : zD KL_law_ 3164 (.istore 6) 2 3166 := ⟨dL_law__3164, rfl⟩
theorem dL_law__3166 : decode cL_law_ 3166 = .ok (.aload_n 2, 1) := by decide +kernel
theorem eL_law__3166 : zD KL_law_ 3166 (.aload_n 2) 1 3167 := ⟨dL_law__3166, rfl⟩
theorem dL_law__3167 : decode cL_law_ 3167 = .ok (.invokevirtual 170, 3) := by decide +kernel
theorem eL_law__3167 : zD KL_law_ 3167 (.invokevirtual 170) 3 3170 := ⟨dL_law__3167, rfl⟩
theorem dL_law__3170 : decode cL_law_ 3170 = .ok (.iload 5, 2) := by decide +kernel
theorem eL_law__3170 : zD KL_law_ 3170 (.iload 5) 2 3172 := ⟨dL_law__3170, rfl⟩
theorem dL_law__3172 : decode cL_law_ 3172 = .ok (.if_icmp .eq 5, 3) := by decide +kernel
theorem eL_law__3172 : zD KL_law_ 3172 (.if_icmp .eq 5) 3 3175 := ⟨dL_law__3172, rfl⟩
theorem dL_law__3175 : decode cL_law_ 3175 = .ok (.iconst 0, 1) := by decide +kernel
theorem eL_law__3175 : zD KL_law_ 3175 (.iconst 0) 1 3176 := ⟨dL_law__3175, rfl⟩
theorem dL_law__3176 : decode cL_law_ 3176 = .ok (.ireturn, 1) := by decide +kernel
theorem eL_law__3176 : zD KL_law_ 3176 (.ireturn) 1 3177 := ⟨dL_law__3176, rfl⟩
theorem dL_law__3177 : decode cL_law_ 3177 = .ok (.iload 5, 2) := by decide +kernel
theorem eL_law__3177 : zD KL_law_ 3177 (.iload 5) 2 3179 := ⟨dL_law__3177, rfl⟩
theorem dL_law__3179 : decode cL_law_ 3179 = .ok (.ifCond .ne 15, 3) := by decide +kernel
theorem eL_law__3179 : zD KL_law_ 3179 (.ifCond .ne 15) 3 3182 := ⟨dL_law__3179, rfl⟩
theorem dL_law__3182 : decode cL_law_ 3182 = .ok (.aload_n 3, 1) := by decide +kernel
theorem eL_law__3182 : zD KL_law_ 3182 (.aload_n 3) 1 3183 := ⟨dL_law__3182, rfl⟩
theorem dL_law__3183 : decode cL_law_ 3183 = .ok (.iconst 0, 1) := by decide +kernel
theorem eL_law__3183 : zD KL_law_ 3183 (.iconst 0) 1 3184 := ⟨dL_law__3183, rfl⟩
theorem dL_law__3184 : decode cL_law_ 3184 = .ok (.laload, 1) := by decide +kernel
theorem eL_law__3184 : zD KL_law_ 3184 (.laload) 1 3185 := ⟨dL_law__3184, rfl⟩
theorem dL_law__3185 : decode cL_law_ 3185 = .ok (.iload 6, 2) := by decide +kernel
theorem eL_law__3185 : zD KL_law_ 3185 (.iload 6) 2 3187 := ⟨dL_law__3185, rfl⟩
theorem dL_law__3187 : decode cL_law_ 3187 = .ok (.i2l, 1) := by decide +kernel
theorem eL_law__3187 : zD KL_law_ 3187 (.i2l) 1 3188 := ⟨dL_law__3187, rfl⟩
theorem dL_law__3188 : decode cL_law_ 3188 = .ok (.lcmp, 1) := by decide +kernel
theorem eL_law__3188 : zD KL_law_ 3188 (.lcmp) 1 3189 := ⟨dL_law__3188, rfl⟩
theorem dL_law__3189 : decode cL_law_ 3189 = .ok (.ifCond .eq 5, 3) := by decide +kernel
theorem eL_law__3189 : zD KL_law_ 3189 (.ifCond .eq 5) 3 3192 := ⟨dL_law__3189, rfl⟩
theorem dL_law__3192 : decode cL_law_ 3192 = .ok (.iconst 0, 1) := by decide +kernel
theorem eL_law__3192 : zD KL_law_ 3192 (.iconst 0) 1 3193 := ⟨dL_law__3192, rfl⟩
theorem dL_law__3193 : decode cL_law_ 3193 = .ok (.ireturn, 1) := by decide +kernel
theorem eL_law__3193 : zD KL_law_ 3193 (.ireturn) 1 3194 := ⟨dL_law__3193, rfl⟩
theorem dL_law__3194 : decode cL_law_ 3194 = .ok (.goto 158, 3) := by decide +kernel
theorem eL_law__3194 : zD KL_law_ 3194 (.goto 158) 3 3197 := ⟨dL_law__3194, rfl⟩
theorem dL_law__3197 : decode cL_law_ 3197 = .ok (.aload_n 1, 1) := by decide +kernel
theorem eL_law__3197 : zD KL_law_ 3197 (.aload_n 1) 1 3198 := ⟨dL_law__3197, rfl⟩
theorem dL_law__3198 : decode cL_law_ 3198 = .ok (.aload_n 0, 1) := by decide +kernel
theorem eL_law__3198 : zD KL_law_ 3198 (.aload_n 0) 1 3199 := ⟨dL_law__3198, rfl⟩
theorem dL_law__3199 : decode cL_law_ 3199 = .ok (.iload 4, 2) := by decide +kernel
theorem eL_law__3199 : zD KL_law_ 3199 (.iload 4) 2 3201 := ⟨dL_law__3199, rfl⟩
theorem dL_law__3201 : decode cL_law_ 3201 = .ok (.iconst 1, 1) := by decide +kernel
theorem eL_law__3201 : zD KL_law_ 3201 (.iconst 1) 1 3202 := ⟨dL_law__3201, rfl⟩
theorem dL_law__3202 : decode cL_law_ 3202 = .ok (.iadd, 1) := by decide +kernel
theorem eL_law__3202 : zD KL_law_ 3202 (.iadd) 1 3203 := ⟨dL_law__3202, rfl⟩
theorem dL_law__3203 : decode cL_law_ 3203 = .ok (.iaload, 1) := by decide +kernel
theorem eL_law__3203 : zD KL_law_ 3203 (.iaload) 1 3204 := ⟨dL_law__3203, rfl⟩
theorem dL_law__3204 : decode cL_law_ 3204 = .ok (.aload_n 0, 1) := by decide +kernel
theorem eL_law__3204 : zD KL_law_ 3204 (.aload_n 0) 1 3205 := ⟨dL_law__3204, rfl⟩
theorem dL_law__3205 : decode cL_law_ 3205 = .ok (.iload 4, 2) := by decide +kernel
theorem eL_law__3205 : zD KL_law_ 3205 (.iload 4) 2 3207 := ⟨dL_law__3205, rfl⟩
theorem dL_law__3207 : decode cL_law_ 3207 = .ok (.iconst 2, 1) := by decide +kernel
theorem eL_law__3207 : zD KL_law_ 3207 (.iconst 2) 1 3208 := ⟨dL_law__3207, rfl⟩
theorem dL_law__3208 : decode cL_law_ 3208 = .ok (.iadd, 1) := by decide +kernel
theorem eL_law__3208 : zD KL_law_ 3208 (.iadd) 1 3209 := ⟨dL_law__3208, rfl⟩
theorem dL_law__3209 : decode cL_law_ 3209 = .ok (.iaload, 1) := by decide +kernel
theorem eL_law__3209 : zD KL_law_ 3209 (.iaload) 1 3210 := ⟨dL_law__3209, rfl⟩
theorem dL_law__3210 : decode cL_law_ 3210 = .ok (.aload_n 3, 1) := by decide +kernel
theorem eL_law__3210 : zD KL_law_ 3210 (.aload_n 3) 1 3211 := ⟨dL_law__3210, rfl⟩
theorem dL_law__3211 : decode cL_law_ 3211 = .ok (.invokestatic 352, 3) := by decide +kernel
theorem eL_law__3211 : zD KL_law_ 3211 (.invokestatic 352) 3 3214 := ⟨dL_law__3211, rfl⟩
theorem dL_law__3214 : decode cL_law_ 3214 = .ok (.istore 5, 2) := by decide +kernel
theorem eL_law__3214 : zD KL_law_ 3214 (.istore 5) 2 3216 := ⟨dL_law__3214, rfl⟩
theorem dL_law__3216 : decode cL_law_ 3216 = .ok (.aload_n 2, 1) := by decide +kernel
theorem eL_law__3216 : zD KL_law_ 3216 (.aload_n 2) 1 3217 := ⟨dL_law__3216, rfl⟩
theorem dL_law__3217 : decode cL_law_ 3217 = .ok (.aload_n 0, 1) := by decide +kernel
theorem eL_law__3217 : zD KL_law_ 3217 (.aload_n 0) 1 3218 := ⟨dL_law__3217, rfl⟩
theorem dL_law__3218 : decode cL_law_ 3218 = .ok (.iload 4, 2) := by decide +kernel
theorem eL_law__3218 : zD KL_law_ 3218 (.iload 4) 2 3220 := ⟨dL_law__3218, rfl⟩
theorem dL_law__3220 : decode cL_law_ 3220 = .ok (.iconst 1, 1) := by decide +kernel
theorem eL_law__3220 : zD KL_law_ 3220 (.iconst 1) 1 3221 := ⟨dL_law__3220, rfl⟩
theorem dL_law__3221 : decode cL_law_ 3221 = .ok (.iadd, 1) := by decide +kernel
theorem eL_law__3221 : zD KL_law_ 3221 (.iadd) 1 3222 := ⟨dL_law__3221, rfl⟩
theorem dL_law__3222 : decode cL_law_ 3222 = .ok (.iaload, 1) := by decide +kernel
theorem eL_law__3222 : zD KL_law_ 3222 (.iaload) 1 3223 := ⟨dL_law__3222, rfl⟩
theorem dL_law__3223 : decode cL_law_ 3223 = .ok (.aload_n 0, 1) := by decide +kernel
theorem eL_law__3223 : zD KL_law_ 3223 (.aload_n 0) 1 3224 := ⟨dL_law__3223, rfl⟩
theorem dL_law__3224 : decode cL_law_ 3224 = .ok (.iload 4, 2) := by decide +kernel
theorem eL_law__3224 : zD KL_law_ 3224 (.iload 4) 2 3226 := ⟨dL_law__3224, rfl⟩
theorem dL_law__3226 : decode cL_law_ 3226 = .ok (.iconst 2, 1) := by decide +kernel
theorem eL_law__3226 : zD KL_law_ 3226 (.iconst 2) 1 3227 := ⟨dL_law__3226, rfl⟩
theorem dL_law__3227 : decode cL_law_ 3227 = .ok (.iadd, 1) := by decide +kernel
theorem eL_law__3227 : zD KL_law_ 3227 (.iadd) 1 3228 := ⟨dL_law__3227, rfl⟩
theorem dL_law__3228 : decode cL_law_ 3228 = .ok (.iaload, 1) := by decide +kernel
theorem eL_law__3228 : zD KL_law_ 3228 (.iaload) 1 3229 := ⟨dL_law__3228, rfl⟩
theorem dL_law__3229 : decode cL_law_ 3229 = .ok (.invokevirtual 354, 3) := by decide +kernel
theorem eL_law__3229 : zD KL_law_ 3229 (.invokevirtual 354) 3 3232 := ⟨dL_law__3229, rfl⟩
theorem dL_law__3232 : decode cL_law_ 3232 = .ok (.istore 6, 2) := by decide +kernel
theorem eL_law__3232 : zD KL_law_ 3232 (.istore 6) 2 3234 := ⟨dL_law__3232, rfl⟩
theorem dL_law__3234 : decode cL_law_ 3234 = .ok (.aload_n 2, 1) := by decide +kernel
theorem eL_law__3234 : zD KL_law_ 3234 (.aload_n 2) 1 3235 := ⟨dL_law__3234, rfl⟩
theorem dL_law__3235 : decode cL_law_ 3235 = .ok (.invokevirtual 170, 3) := by decide +kernel
theorem eL_law__3235 : zD KL_law_ 3235 (.invokevirtual 170) 3 3238 := ⟨dL_law__3235, rfl⟩
theorem dL_law__3238 : decode cL_law_ 3238 = .ok (.iload 5, 2) := by decide +kernel
theorem eL_law__3238 : zD KL_law_ 3238 (.iload 5) 2 3240 := ⟨dL_law__3238, rfl⟩
theorem dL_law__3240 : decode cL_law_ 3240 = .ok (.if_icmp .eq 5, 3) := by decide +kernel
theorem eL_law__3240 : zD KL_law_ 3240 (.if_icmp .eq 5) 3 3243 := ⟨dL_law__3240, rfl⟩
theorem dL_law__3243 : decode cL_law_ 3243 = .ok (.iconst 0, 1) := by decide +kernel
theorem eL_law__3243 : zD KL_law_ 3243 (.iconst 0) 1 3244 := ⟨dL_law__3243, rfl⟩
theorem dL_law__3244 : decode cL_law_ 3244 = .ok (.ireturn, 1) := by decide +kernel
theorem eL_law__3244 : zD KL_law_ 3244 (.ireturn) 1 3245 := ⟨dL_law__3244, rfl⟩
theorem dL_law__3245 : decode cL_law_ 3245 = .ok (.iload 5, 2) := by decide +kernel
theorem eL_law__3245 : zD KL_law_ 3245 (.iload 5) 2 3247 := ⟨dL_law__3245, rfl⟩
theorem dL_law__3247 : decode cL_law_ 3247 = .ok (.ifCond .ne 15, 3) := by decide +kernel
theorem eL_law__3247 : zD KL_law_ 3247 (.ifCond .ne 15) 3 3250 := ⟨dL_law__3247, rfl⟩
theorem dL_law__3250 : decode cL_law_ 3250 = .ok (.aload_n 3, 1) := by decide +kernel
theorem eL_law__3250 : zD KL_law_ 3250 (.aload_n 3) 1 3251 := ⟨dL_law__3250, rfl⟩
theorem dL_law__3251 : decode cL_law_ 3251 = .ok (.iconst 0, 1) := by decide +kernel
theorem eL_law__3251 : zD KL_law_ 3251 (.iconst 0) 1 3252 := ⟨dL_law__3251, rfl⟩
theorem dL_law__3252 : decode cL_law_ 3252 = .ok (.laload, 1) := by decide +kernel
theorem eL_law__3252 : zD KL_law_ 3252 (.laload) 1 3253 := ⟨dL_law__3252, rfl⟩
theorem dL_law__3253 : decode cL_law_ 3253 = .ok (.iload 6, 2) := by decide +kernel
theorem eL_law__3253 : zD KL_law_ 3253 (.iload 6) 2 3255 := ⟨dL_law__3253, rfl⟩
theorem dL_law__3255 : decode cL_law_ 3255 = .ok (.i2l, 1) := by decide +kernel
theorem eL_law__3255 : zD KL_law_ 3255 (.i2l) 1 3256 := ⟨dL_law__3255, rfl⟩
theorem dL_law__3256 : decode cL_law_ 3256 = .ok (.lcmp, 1) := by decide +kernel
theorem eL_law__3256 : zD KL_law_ 3256 (.lcmp) 1 3257 := ⟨dL_law__3256, rfl⟩
theorem dL_law__3257 : decode cL_law_ 3257 = .ok (.ifCond .eq 5, 3) := by decide +kernel
theorem eL_law__3257 : zD KL_law_ 3257 (.ifCond .eq 5) 3 3260 := ⟨dL_law__3257, rfl⟩
theorem dL_law__3260 : decode cL_law_ 3260 = .ok (.iconst 0, 1) := by decide +kernel
theorem eL_law__3260 : zD KL_law_ 3260 (.iconst 0) 1 3261 := ⟨dL_law__3260, rfl⟩
theorem dL_law__3261 : decode cL_law_ 3261 = .ok (.ireturn, 1) := by decide +kernel
theorem eL_law__3261 : zD KL_law_ 3261 (.ireturn) 1 3262 := ⟨dL_law__3261, rfl⟩
theorem dL_law__3262 : decode cL_law_ 3262 = .ok (.goto 90, 3) := by decide +kernel
theorem eL_law__3262 : zD KL_law_ 3262 (.goto 90) 3 3265 := ⟨dL_law__3262, rfl⟩
theorem dL_law__3265 : decode cL_law_ 3265 = .ok (.aload_n 1, 1) := by decide +kernel
theorem eL_law__3265 : zD KL_law_ 3265 (.aload_n 1) 1 3266 := ⟨dL_law__3265, rfl⟩
theorem dL_law__3266 : decode cL_law_ 3266 = .ok (.aload_n 0, 1) := by decide +kernel
theorem eL_law__3266 : zD KL_law_ 3266 (.aload_n 0) 1 3267 := ⟨dL_law__3266, rfl⟩
theorem dL_law__3267 : decode cL_law_ 3267 = .ok (.iload 4, 2) := by decide +kernel
theorem eL_law__3267 : zD KL_law_ 3267 (.iload 4) 2 3269 := ⟨dL_law__3267, rfl⟩
theorem dL_law__3269 : decode cL_law_ 3269 = .ok (.iconst 1, 1) := by decide +kernel
theorem eL_law__3269 : zD KL_law_ 3269 (.iconst 1) 1 3270 := ⟨dL_law__3269, rfl⟩
theorem dL_law__3270 : decode cL_law_ 3270 = .ok (.iadd, 1) := by decide +kernel
theorem eL_law__3270 : zD KL_law_ 3270 (.iadd) 1 3271 := ⟨dL_law__3270, rfl⟩
theorem dL_law__3271 : decode cL_law_ 3271 = .ok (.iaload, 1) := by decide +kernel
theorem eL_law__3271 : zD KL_law_ 3271 (.iaload) 1 3272 := ⟨dL_law__3271, rfl⟩
theorem dL_law__3272 : decode cL_law_ 3272 = .ok (.invokevirtual 355, 3) := by decide +kernel
theorem eL_law__3272 : zD KL_law_ 3272 (.invokevirtual 355) 3 3275 := ⟨dL_law__3272, rfl⟩
theorem dL_law__3275 : decode cL_law_ 3275 = .ok (.aload_n 2, 1) := by decide +kernel
theorem eL_law__3275 : zD KL_law_ 3275 (.aload_n 2) 1 3276 := ⟨dL_law__3275, rfl⟩
theorem dL_law__3276 : decode cL_law_ 3276 = .ok (.aload_n 0, 1) := by decide +kernel
theorem eL_law__3276 : zD KL_law_ 3276 (.aload_n 0) 1 3277 := ⟨dL_law__3276, rfl⟩
theorem dL_law__3277 : decode cL_law_ 3277 = .ok (.iload 4, 2) := by decide +kernel
theorem eL_law__3277 : zD KL_law_ 3277 (.iload 4) 2 3279 := ⟨dL_law__3277, rfl⟩
theorem dL_law__3279 : decode cL_law_ 3279 = .ok (.iconst 1, 1) := by decide +kernel
theorem eL_law__3279 : zD KL_law_ 3279 (.iconst 1) 1 3280 := ⟨dL_law__3279, rfl⟩
theorem dL_law__3280 : decode cL_law_ 3280 = .ok (.iadd, 1) := by decide +kernel
theorem eL_law__3280 : zD KL_law_ 3280 (.iadd) 1 3281 := ⟨dL_law__3280, rfl⟩
theorem dL_law__3281 : decode cL_law_ 3281 = .ok (.iaload, 1) := by decide +kernel
theorem eL_law__3281 : zD KL_law_ 3281 (.iaload) 1 3282 := ⟨dL_law__3281, rfl⟩
theorem dL_law__3282 : decode cL_law_ 3282 = .ok (.invokevirtual 358, 3) := by decide +kernel
theorem eL_law__3282 : zD KL_law_ 3282 (.invokevirtual 358) 3 3285 := ⟨dL_law__3282, rfl⟩
theorem dL_law__3285 : decode cL_law_ 3285 = .ok (.if_icmp .eq 67, 3) := by decide +kernel
theorem eL_law__3285 : zD KL_law_ 3285 (.if_icmp .eq 67) 3 3288 := ⟨dL_law__3285, rfl⟩
theorem dL_law__3288 : decode cL_law_ 3288 = .ok (.iconst 0, 1) := by decide +kernel
theorem eL_law__3288 : zD KL_law_ 3288 (.iconst 0) 1 3289 := ⟨dL_law__3288, rfl⟩
theorem dL_law__3289 : decode cL_law_ 3289 = .ok (.ireturn, 1) := by decide +kernel
theorem eL_law__3289 : zD KL_law_ 3289 (.ireturn) 1 3290 := ⟨dL_law__3289, rfl⟩
theorem dL_law__3290 : decode cL_law_ 3290 = .ok (.aload_n 1, 1) := by decide +kernel
theorem eL_law__3290 : zD KL_law_ 3290 (.aload_n 1) 1 3291 := ⟨dL_law__3290, rfl⟩
theorem dL_law__3291 : decode cL_law_ 3291 = .ok (.invokevirtual 359, 3) := by decide +kernel
theorem eL_law__3291 : zD KL_law_ 3291 (.invokevirtual 359) 3 3294 := ⟨dL_law__3291, rfl⟩
theorem dL_law__3294 : decode cL_law_ 3294 = .ok (.aload_n 2, 1) := by decide +kernel
theorem eL_law__3294 : zD KL_law_ 3294 (.aload_n 2) 1 3295 := ⟨dL_law__3294, rfl⟩
theorem dL_law__3295 : decode cL_law_ 3295 = .ok (.invokevirtual 362, 3) := by decide +kernel
theorem eL_law__3295 : zD KL_law_ 3295 (.invokevirtual 362) 3 3298 := ⟨dL_law__3295, rfl⟩
theorem dL_law__3298 : decode cL_law_ 3298 = .ok (.if_icmp .eq 54, 3) := by decide +kernel
theorem eL_law__3298 : zD KL_law_ 3298 (.if_icmp .eq 54) 3 3301 := ⟨dL_law__3298, rfl⟩
theorem dL_law__3301 : decode cL_law_ 3301 = .ok (.iconst 0, 1) := by decide +kernel
theorem eL_law__3301 : zD KL_law_ 3301 (.iconst 0) 1 3302 := ⟨dL_law__3301, rfl⟩
theorem dL_law__3302 : decode cL_law_ 3302 = .ok (.ireturn, 1) := by decide +kernel
theorem eL_law__3302 : zD KL_law_ 3302 (.ireturn) 1 3303 := ⟨dL_law__3302, rfl⟩
theorem dL_law__3303 : decode cL_law_ 3303 = .ok (.aload_n 1, 1) := by decide +kernel
theorem eL_law__3303 : zD KL_law_ 3303 (.aload_n 1) 1 3304 := ⟨dL_law__3303, rfl⟩
theorem dL_law__3304 : decode cL_law_ 3304 = .ok (.invokevirtual 363, 3) := by decide +kernel
theorem eL_law__3304 : zD KL_law_ 3304 (.invokevirtual 363) 3 3307 := ⟨dL_law__3304, rfl⟩
theorem dL_law__3307 : decode cL_law_ 3307 = .ok (.aload_n 2, 1) := by decide +kernel
theorem eL_law__3307 : zD KL_law_ 3307 (.aload_n 2) 1 3308 := ⟨dL_law__3307, rfl⟩
theorem dL_law__3308 : decode cL_law_ 3308 = .ok (.invokevirtual 366, 3) := by decide +kernel
theorem eL_law__3308 : zD KL_law_ 3308 (.invokevirtual 366) 3 3311 := ⟨dL_law__3308, rfl⟩
theorem dL_law__3311 : decode cL_law_ 3311 = .ok (.goto 41, 3) := by decide +kernel
theorem eL_law__3311 : zD KL_law_ 3311 (.goto 41) 3 3314 := ⟨dL_law__3311, rfl⟩
theorem dL_law__3314 : decode cL_law_ 3314 = .ok (.aload_n 1, 1) := by decide +kernel
theorem eL_law__3314 : zD KL_law_ 3314 (.aload_n 1) 1 3315 := ⟨dL_law__3314, rfl⟩
theorem dL_law__3315 : decode cL_law_ 3315 = .ok (.invokevirtual 367, 3) := by decide +kernel
theorem eL_law__3315 : zD KL_law_ 3315 (.invokevirtual 367) 3 3318 := ⟨dL_law__3315, rfl⟩
theorem dL_law__3318 : decode cL_law_ 3318 = .ok (.aload_n 2, 1) := by decide +kernel
theorem eL_law__3318 : zD KL_law_ 3318 (.aload_n 2) 1 3319 := ⟨dL_law__3318, rfl⟩
theorem dL_law__3319 : decode cL_law_ 3319 = .ok (.invokevirtual 370, 3) := by decide +kernel
theorem eL_law__3319 : zD KL_law_ 3319 (.invokevirtual 370) 3 3322 := ⟨dL_law__3319, rfl⟩
theorem dL_law__3322 : decode cL_law_ 3322 = .ok (.if_icmp .eq 30, 3) := by decide +kernel
theorem eL_law__3322 : zD KL_law_ 3322 (.if_icmp .eq 30) 3 3325 := ⟨dL_law__3322, rfl⟩
theorem dL_law__3325 : decode cL_law_ 3325 = .ok (.iconst 0, 1) := by decide +kernel
theorem eL_law__3325 : zD KL_law_ 3325 (.iconst 0) 1 3326 := ⟨dL_law__3325, rfl⟩
theorem dL_law__3326 : decode cL_law_ 3326 = .ok (.ireturn, 1) := by decide +kernel
theorem eL_law__3326 : zD KL_law_ 3326 (.ireturn) 1 3327 := ⟨dL_law__3326, rfl⟩
theorem dL_law__3327 : decode cL_law_ 3327 = .ok (.aload_n 1, 1) := by decide +kernel
theorem eL_law__3327 : zD KL_law_ 3327 (.aload_n 1) 1 3328 := ⟨dL_law__3327, rfl⟩
theorem dL_law__3328 : decode cL_law_ 3328 = .ok (.aload_n 0, 1) := by decide +kernel
theorem eL_law__3328 : zD KL_law_ 3328 (.aload_n 0) 1 3329 := ⟨dL_law__3328, rfl⟩
theorem dL_law__3329 : decode cL_law_ 3329 = .ok (.iload 4, 2) := by decide +kernel
theorem eL_law__3329 : zD KL_law_ 3329 (.iload 4) 2 3331 := ⟨dL_law__3329, rfl⟩
theorem dL_law__3331 : decode cL_law_ 3331 = .ok (.iconst 1, 1) := by decide +kernel
theorem eL_law__3331 : zD KL_law_ 3331 (.iconst 1) 1 3332 := ⟨dL_law__3331, rfl⟩
theorem dL_law__3332 : decode cL_law_ 3332 = .ok (.iadd, 1) := by decide +kernel
theorem eL_law__3332 : zD KL_law_ 3332 (.iadd) 1 3333 := ⟨dL_law__3332, rfl⟩
theorem dL_law__3333 : decode cL_law_ 3333 = .ok (.iaload, 1) := by decide +kernel
theorem eL_law__3333 : zD KL_law_ 3333 (.iaload) 1 3334 := ⟨dL_law__3333, rfl⟩
theorem dL_law__3334 : decode cL_law_ 3334 = .ok (.invokevirtual 371, 3) := by decide +kernel
theorem eL_law__3334 : zD KL_law_ 3334 (.invokevirtual 371) 3 3337 := ⟨dL_law__3334, rfl⟩
theorem dL_law__3337 : decode cL_law_ 3337 = .ok (.aload_n 2, 1) := by decide +kernel
theorem eL_law__3337 : zD KL_law_ 3337 (.aload_n 2) 1 3338 := ⟨dL_law__3337, rfl⟩
theorem dL_law__3338 : decode cL_law_ 3338 = .ok (.aload_n 0, 1) := by decide +kernel
theorem eL_law__3338 : zD KL_law_ 3338 (.aload_n 0) 1 3339 := ⟨dL_law__3338, rfl⟩
theorem dL_law__3339 : decode cL_law_ 3339 = .ok (.iload 4, 2) := by decide +kernel
theorem eL_law__3339 : zD KL_law_ 3339 (.iload 4) 2 3341 := ⟨dL_law__3339, rfl⟩
theorem dL_law__3341 : decode cL_law_ 3341 = .ok (.iconst 1, 1) := by decide +kernel
theorem eL_law__3341 : zD KL_law_ 3341 (.iconst 1) 1 3342 := ⟨dL_law__3341, rfl⟩
theorem dL_law__3342 : decode cL_law_ 3342 = .ok (.iadd, 1) := by decide +kernel
theorem eL_law__3342 : zD KL_law_ 3342 (.iadd) 1 3343 := ⟨dL_law__3342, rfl⟩
theorem dL_law__3343 : decode cL_law_ 3343 = .ok (.iaload, 1) := by decide +kernel
theorem eL_law__3343 : zD KL_law_ 3343 (.iaload) 1 3344 := ⟨dL_law__3343, rfl⟩
theorem dL_law__3344 : decode cL_law_ 3344 = .ok (.invokevirtual 374, 3) := by decide +kernel
theorem eL_law__3344 : zD KL_law_ 3344 (.invokevirtual 374) 3 3347 := ⟨dL_law__3344, rfl⟩
theorem dL_law__3347 : decode cL_law_ 3347 = .ok (.if_icmp .eq 5, 3) := by decide +kernel
theorem eL_law__3347 : zD KL_law_ 3347 (.if_icmp .eq 5) 3 3350 := ⟨dL_law__3347, rfl⟩
theorem dL_law__3350 : decode cL_law_ 3350 = .ok (.iconst 0, 1) := by decide +kernel
theorem eL_law__3350 : zD KL_law_ 3350 (.iconst 0) 1 3351 := ⟨dL_law__3350, rfl⟩
theorem dL_law__3351 : decode cL_law_ 3351 = .ok (.ireturn, 1) := by decide +kernel
theorem eL_law__3351 : zD KL_law_ 3351 (.ireturn) 1 3352 := ⟨dL_law__3351, rfl⟩
theorem dL_law__3352 : decode cL_law_ 3352 = .ok (.iinc 4 6, 3) := by decide +kernel
theorem eL_law__3352 : zD KL_law_ 3352 (.iinc 4 6) 3 3355 := ⟨dL_law__3352, rfl⟩
theorem dL_law__3355 : decode cL_law_ 3355 = .ok (.goto (-3332), 3) := by decide +kernel
theorem eL_law__3355 : zD KL_law_ 3355 (.goto (-3332)) 3 3358 := ⟨dL_law__3355, rfl⟩
theorem dL_law__3358 : decode cL_law_ 3358 = .ok (.iconst 1, 1) := by decide +kernel
theorem eL_law__3358 : zD KL_law_ 3358 (.iconst 1) 1 3359 := ⟨dL_law__3358, rfl⟩
theorem dL_law__3359 : decode cL_law_ 3359 = .ok (.ireturn, 1) := by decide +kernel
theorem eL_law__3359 : zD KL_law_ 3359 (.ireturn) 1 3360 := ⟨dL_law__3359, rfl⟩
