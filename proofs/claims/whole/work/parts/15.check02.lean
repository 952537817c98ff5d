theorem qk_0_28 : qchkr 0 106 3 = true := by decide +kernel
theorem qk_0 : qchka 0 = true := qchk_f (qchk_s (qchk_s (qchk_s (qchk_s (qchk_s (qchk_s (qchk_s (qchk_s (qchk_s (qchk_s (qchk_s (qchk_s (qchk_s (qchk_s (qchk_s (qchk_s (qchk_s (qchk_s (qchk_s (qchk_s (qchk_s (qchk_s (qchk_s (qchk_s (qchk_s (qchk_s (qchk_s (qchk_s qk_0_0 qk_0_1) qk_0_2) qk_0_3) qk_0_4) qk_0_5) qk_0_6) qk_0_7) qk_0_8) qk_0_9) qk_0_10) qk_0_11) qk_0_12) qk_0_13) qk_0_14) qk_0_15) qk_0_16) qk_0_17) qk_0_18) qk_0_19) qk_0_20) qk_0_21) qk_0_22) qk_0_23) qk_0_24) qk_0_25) qk_0_26) qk_0_27) qk_0_28) (by decide +kernel)
theorem qk_1 : qchka 1 = true := by decide +kernel
theorem qk_2 : qchka 2 = true := by decide +kernel
theorem qk_3 : qchka 3 = true := by decide +kernel
theorem qk_4 : qchka 4 = true := by decide +kernel
theorem qk_5 : qchka 5 = true := by decide +kernel
theorem qk_6 : qchka 6 = true := by decide +kernel
theorem qk_7 : qchka 7 = true := by decide +kernel
theorem qk_8 : qchka 8 = true := by decide +kernel
theorem qk_9 : qchka 9 = true := by decide +kernel
theorem qk_10 : qchka 10 = true := by decide +kernel
theorem qk_11 : qchka 11 = true := by decide +kernel
theorem qk_12 : qchka 12 = true := by decide +kernel
theorem qk_13 : qchka 13 = true := by decide +kernel
theorem qk_14 : qchka 14 = true := by decide +kernel
theorem qk_15 : qchka 15 = true := by decide +kernel
theorem qk_16 : qchka 16 = true := by decide +kernel
theorem qk_17 : qchka 17 = true := by decide +kernel
theorem qk_18 : qchka 18 = true := by decide +kernel
theorem qk_19 : qchka 19 = true := by decide +kernel
theorem qk_20 : qchka 20 = true := by decide +kernel
theorem qk_21 : qchka 21 = true := by decide +kernel
theorem qk_22 : qchka 22 = true := by decide +kernel
theorem qk_23 : qchka 23 = true := by decide +kernel
theorem qk_24 : qchka 24 = true := by decide +kernel
theorem qk_25 : qchka 25 = true := by decide +kernel
theorem qk_26 : qchka 26 = true := by decide +kernel
theorem qk_27 : qchka 27 = true := by decide +kernel
theorem qk_28 : qchka 28 = true := by decide +kernel
theorem qk_29 : qchka 29 = true := by decide +kernel
theorem qk_30 : qchka 30 = true := by decide +kernel
theorem qk_31 : qchka 31 = true := by decide +kernel
theorem qk_32 : qchka 32 = true := by decide +kernel
theorem qk_33 : qchka 33 = true := by decide +kernel
theorem qk_34 : qchka 34 = true := by decide +kernel
theorem qk_35 : qchka 35 = true := by decide +kernel
theorem qk_36 : qchka 36 = true := by decide +kernel
theorem qk_37 : qchka 37 = true := by decide +kernel
theorem qk_38 : qchka 38 = true := by decide +kernel
theorem qk_39 : qchka 39 = true := by decide +kernel
theorem qk_40 : qchka 40 = true := by decide +kernel
theorem qk_41 : qchka 41 = true := by decide +kernel
theorem qk_42 : qchka 42 = true := by decide +kernel
theorem qk_43 : qchka 43 = true := by decide +kernel
theorem qk_44 : qchka 44 = true := by decide +kernel
theorem qk_45 : qchka 45 = true := by decide +kernel
theorem qk_46 : qchka 46 = true := by decide +kernel
theorem qk_47 : qchka 47 = true := by decide +kernel
theorem qk_48 : qchka 48 = true := by decide +kernel
theorem qk_49 : qchka 49 = true := by decide +kernel
theorem qk_50 : qchka 50 = true := by decide +kernel
theorem qk_51 : qchka 51 = true := by decide +kernel
theorem qk_52 : qchka 52 = true := by decide +kernel
theorem qk_53 : qchka 53 = true := by decide +kernel
theorem qk_54 : qchka 54 = true := by decide +kernel
theorem qk_55 : qchka 55 = true := by decide +kernel
theorem qk_56 : qchka 56 = true := by decide +kernel
theorem qk_57 : qchka 57 = true := by decide +kernel
theorem qk_58 : qchka 58 = true := by decide +kernel
theorem qk_59 : qchka 59 = true := by decide +kernel
theorem qk_60 : qchka 60 = true := by decide +kernel
theorem qk_61 : qchka 61 = true := by decide +kernel
theorem qk_62 : qchka 62 = true := by decide +kernel
theorem qk_63 : qchka 63 = true := by decide +kernel
theorem qk_64 : qchka 64 = true := by decide +kernel
theorem qk_65 : qchka 65 = true := by decide +kernel
theorem qk_66 : qchka 66 = true := by decide +kernel
theorem qk_67 : qchka 67 = true := by decide +kernel
theorem qk_68 : qchka 68 = true := by decide +kernel
theorem qk_69 : qchka 69 = true := by decide +kernel
theorem qk_70 : qchka 70 = true := by decide +kernel
theorem qk_71 : qchka 71 = true := by decide +kernel
theorem qk_72 : qchka 72 = true := by decide +kernel
theorem qk_73 : qchka 73 = true := by decide +kernel
theorem qk_74 : qchka 74 = true := by decide +kernel
theorem qk_75 : qchka 75 = true := by decide +kernel
theorem qk_76_0 : qchkr 76 0 23 = true := by decide +kernel
theorem qk_76_1 : qchkr 76 23 9 = true := by decide +kernel
theorem qk_76_2 : qchkr 76 32 7 = true := by decide +kernel
theorem qk_76_3 : qchkr 76 39 6 = true := by decide +kernel
theorem qk_76_4 : qchkr 76 45 5 = true := by decide +kernel
theorem qk_76_5 : qchkr 76 50 6 = true := by decide +kernel
theorem qk_76_6 : qchkr 76 56 5 = true := by decide +kernel
theorem qk_76_7 : qchkr 76 61 6 = true := by decide +kernel
theorem qk_76_8 : qchkr 76 67 5 = true := by decide +kernel
theorem qk_76_9 : qchkr 76 72 5 = true := by decide +kernel
