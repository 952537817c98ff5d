/-! CheesePost.post(I)I -/
theorem hy_32 : (qnm 32).cls = qocn (qoc 32) := by decide +kernel
noncomputable def n_32_0 (c : qV) : qF := (sF c [(.iload_n 1, 1, 0, 0, 0), (.iconst 0, 1, 0, 0, 0), (.iconst 2, 1, 0, 0, 0), (.aload_n 0, 1, 0, 0, 0), (.getfield 12, 3, 0, 0, 2), (.getfield 174, 3, 1, 11, 0), (.iadd, 1, 0, 0, 0), (.invokestatic 120, 3, 57, 3, 0)] (bF (.ifCond .ne 5, 3, 19, 0, 0)
 (sF c [(.aload_n 0, 1, 0, 0, 0), (.getfield 52, 3, 0, 10, 2), (.invokevirtual 235, 3, 255, 0, 5), (.aload_n 0, 1, 0, 0, 0), (.getfield 68, 3, 0, 12, 2), (.invokevirtual 356, 3, 238, 0, 3), (.aload_n 0, 1, 0, 0, 0), (.getfield 68, 3, 0, 12, 2), (.invokevirtual 359, 3, 239, 0, 3), (.iload_n 1, 1, 0, 0, 0)] (swF 0 [(sF c [(.aload_n 0, 1, 0, 0, 0), (.getfield 68, 3, 0, 12, 2), (.getfield 362, 3, 3, 14, 0)] rI),
 (sF c [(.aload_n 0, 1, 0, 0, 0), (.getfield 68, 3, 0, 12, 2), (.getfield 365, 3, 3, 15, 0)] rI),
 (sF c [(.aload_n 0, 1, 0, 0, 0), (.getfield 68, 3, 0, 12, 2), (.getfield 368, 3, 3, 16, 0)] rI)] (sF c [(.aload_n 0, 1, 0, 0, 0), (.getfield 68, 3, 0, 12, 2), (.getfield 371, 3, 3, 13, 2), (.iload_n 1, 1, 0, 0, 0), (.iconst 3, 1, 0, 0, 0), (.isub, 1, 0, 0, 0), (.iaload, 1, 0, 0, 0)] rI)))
 (sF c [(.iconst (-1), 1, 0, 0, 0)] rI)))
theorem s_32_0 {G : qG} {d : Nat} {c : qV} (hc : qvok G d c) : Snd G (d + 1) 32 0 (n_32_0 c) := (sF_snd qk_32 hy_32 hc (bF_snd (pc := 14) qk_32 (by decide +kernel)
 (sF_snd qk_32 hy_32 hc (swF_snd (pc := 41) (lo := 0) (df := 92) qk_32 (by decide +kernel) (Snds_c (t := 68) (sF_snd qk_32 hy_32 hc (rI_snd (pc := 75) qk_32 (by decide +kernel) (by decide +kernel)) _ 68 (by decide +kernel)) (Snds_c (t := 76) (sF_snd qk_32 hy_32 hc (rI_snd (pc := 83) qk_32 (by decide +kernel) (by decide +kernel)) _ 76 (by decide +kernel)) (Snds_c (t := 84) (sF_snd qk_32 hy_32 hc (rI_snd (pc := 91) qk_32 (by decide +kernel) (by decide +kernel)) _ 84 (by decide +kernel)) Snds_n))) (sF_snd qk_32 hy_32 hc (rI_snd (pc := 103) qk_32 (by decide +kernel) (by decide +kernel)) _ 92 (by decide +kernel))) _ 19 (by decide +kernel))
 (sF_snd qk_32 hy_32 hc (rI_snd (pc := 18) qk_32 (by decide +kernel) (by decide +kernel)) _ 17 (by decide +kernel))) _ 0 (by decide +kernel))
/-! CheesePost.trace(II)I -/
theorem hy_33 : (qnm 33).cls = qocn (qoc 33) := by decide +kernel
noncomputable def n_33_16 (c : qV) : qF := (sF c [(.aload_n 0, 1, 0, 0, 0), (.iconst (-1), 1, 0, 0, 0), (.invokevirtual 124, 3, 48, 1, 0)] rI)
theorem s_33_16 {G : qG} {d : Nat} {c : qV} (hc : qvok G d c) : Snd G (d + 1) 33 16 (n_33_16 c) := (sF_snd qk_33 hy_33 hc (rI_snd (pc := 21) qk_33 (by decide +kernel) (by decide +kernel)) _ 16 (by decide +kernel))
noncomputable def n_33_0 (c : qV) : qF := (sF c [(.iload_n 1, 1, 0, 0, 0), (.invokestatic 116, 3, 58, 1, 0)] (bF (.ifCond .eq 12, 3, 16, 0, 0)
 (n_33_16 c)
 (sF c [(.iload_n 2, 1, 0, 0, 0), (.iconst 0, 1, 0, 0, 0), (.iconst 1, 1, 0, 0, 0), (.invokestatic 120, 3, 57, 3, 0)] (bF (.ifCond .ne 9, 3, 22, 0, 0)
 (sF c [(.aload_n 0, 1, 0, 0, 0), (.getfield 12, 3, 0, 0, 2), (.getfield 374, 3, 1, 14, 0), (.bipush 8, 2, 0, 0, 0)] (bF (.if_icmp .lt 10, 3, 41, 0, 0)
 (sF c [(.aload_n 0, 1, 0, 0, 0), (.getfield 12, 3, 0, 0, 2), (.getfield 377, 3, 1, 8, 2), (.aload_n 0, 1, 0, 0, 0), (.getfield 12, 3, 0, 0, 2), (.getfield 374, 3, 1, 14, 0), (.iload_n 1, 1, 0, 0, 0), (.iastore, 1, 0, 0, 0), (.aload_n 0, 1, 0, 0, 0), (.getfield 12, 3, 0, 0, 2), (.getfield 380, 3, 1, 9, 2), (.aload_n 0, 1, 0, 0, 0), (.getfield 12, 3, 0, 0, 2), (.getfield 374, 3, 1, 14, 0), (.iload_n 2, 1, 0, 0, 0), (.iastore, 1, 0, 0, 0), (.aload_n 0, 1, 0, 0, 0), (.getfield 12, 3, 0, 0, 2), (.dup, 1, 0, 0, 0), (.getfield 374, 3, 1, 14, 0), (.iconst 1, 1, 0, 0, 0), (.iadd, 1, 0, 0, 0), (.putfield 374, 3, 1, 14, 0), (.aload_n 0, 1, 0, 0, 0), (.aload_n 0, 1, 0, 0, 0), (.getfield 12, 3, 0, 0, 2), (.getfield 374, 3, 1, 14, 0), (.invokevirtual 137, 3, 49, 1, 0)] rI)
 (sF c [(.aload_n 0, 1, 0, 0, 0), (.bipush (-5), 2, 0, 0, 0), (.invokevirtual 124, 3, 48, 1, 0)] rI)))
 (n_33_16 c)))))
theorem s_33_0 {G : qG} {d : Nat} {c : qV} (hc : qvok G d c) : Snd G (d + 1) 33 0 (n_33_0 c) := (sF_snd qk_33 hy_33 hc (bF_snd (pc := 4) qk_33 (by decide +kernel)
 (s_33_16 hc)
 (sF_snd qk_33 hy_33 hc (bF_snd (pc := 13) qk_33 (by decide +kernel)
 (sF_snd qk_33 hy_33 hc (bF_snd (pc := 31) qk_33 (by decide +kernel)
 (sF_snd qk_33 hy_33 hc (rI_snd (pc := 97) qk_33 (by decide +kernel) (by decide +kernel)) _ 41 (by decide +kernel))
 (sF_snd qk_33 hy_33 hc (rI_snd (pc := 40) qk_33 (by decide +kernel) (by decide +kernel)) _ 34 (by decide +kernel))) _ 22 (by decide +kernel))
 (s_33_16 hc)) _ 7 (by decide +kernel))) _ 0 (by decide +kernel))
/-! CheesePost.forget()I -/
theorem hy_34 : (qnm 34).cls = qocn (qoc 34) := by decide +kernel
noncomputable def n_34_0 (c : qV) : qF := (sF c [(.aload_n 0, 1, 0, 0, 0), (.getfield 12, 3, 0, 0, 2), (.getfield 374, 3, 1, 14, 0), (.istore_n 1, 1, 0, 0, 0), (.aload_n 0, 1, 0, 0, 0), (.getfield 12, 3, 0, 0, 2), (.iconst 0, 1, 0, 0, 0), (.putfield 374, 3, 1, 14, 0), (.iload_n 1, 1, 0, 0, 0)] rI)
theorem s_34_0 {G : qG} {d : Nat} {c : qV} (hc : qvok G d c) : Snd G (d + 1) 34 0 (n_34_0 c) := (sF_snd qk_34 hy_34 hc (rI_snd (pc := 17) qk_34 (by decide +kernel) (by decide +kernel)) _ 0 (by decide +kernel))
/-! CheesePost.fits(I)I -/
theorem hy_35 : (qnm 35).cls = qocn (qoc 35) := by decide +kernel
noncomputable def n_35_73 (c : qV) : qF := rI
theorem s_35_73 {G : qG} {d : Nat} {c : qV} (hc : qvok G d c) : Snd G (d + 1) 35 73 (n_35_73 c) := (rI_snd (pc := 73) qk_35 (by decide +kernel) (by decide +kernel))
noncomputable def n_35_63 (c : qV) : qF := (sF c [(.iload_n 1, 1, 0, 0, 0), (.iconst (-1), 1, 0, 0, 0)] (bF (.if_icmp .ne 7, 3, 72, 0, 0)
 (sF c [(.iconst (-1), 1, 0, 0, 0)] (n_35_73 c))
 (sF c [(.iload_n 2, 1, 0, 0, 0), (.goto 4, 3, 73, 0, 0)] (n_35_73 c))))
theorem s_35_63 {G : qG} {d : Nat} {c : qV} (hc : qvok G d c) : Snd G (d + 1) 35 63 (n_35_63 c) := (sF_snd qk_35 hy_35 hc (bF_snd (pc := 65) qk_35 (by decide +kernel)
 (sF_snd qk_35 hy_35 hc (s_35_73 hc) _ 72 (by decide +kernel))
 (sF_snd qk_35 hy_35 hc (s_35_73 hc) _ 68 (by decide +kernel))) _ 63 (by decide +kernel))
noncomputable def n_35_57 (c : qV) (K18 : qF) : qF := (sF c [(.iinc 3 1, 3, 0, 0, 0), (.goto (-42), 3, 18, 0, 0)] K18)
theorem s_35_57 {G : qG} {d : Nat} {c : qV} (hc : qvok G d c) {K18 : qF} (h18 : Snd G (d + 1) 35 18 K18) : Snd G (d + 1) 35 57 (n_35_57 c K18) := (sF_snd qk_35 hy_35 hc h18 _ 57 (by decide +kernel))
noncomputable def f_35_18 (c : qV) (K18 : qF) : qF := (sF c [(.iload_n 3, 1, 0, 0, 0), (.sipush 1280, 3, 0, 0, 0)] (bF (.if_icmp .ge 41, 3, 63, 0, 0)
 (n_35_63 c)
 (sF c [(.aload_n 0, 1, 0, 0, 0), (.getfield 68, 3, 0, 12, 2), (.iload_n 3, 1, 0, 0, 0), (.invokevirtual 284, 3, 229, 1, 3)] (bF (.ifCond .eq 24, 3, 57, 0, 0)
 (n_35_57 c K18)
 (sF c [(.aload_n 0, 1, 0, 0, 0), (.getfield 68, 3, 0, 12, 2), (.iload_n 3, 1, 0, 0, 0), (.invokevirtual 383, 3, 244, 1, 3)] (bF (.ifCond .eq 13, 3, 57, 0, 0)
 (n_35_57 c K18)
 (sF c [(.iload_n 2, 1, 0, 0, 0), (.iload_n 1, 1, 0, 0, 0)] (bF (.if_icmp .ne 5, 3, 54, 0, 0)
 (sF c [(.iinc 2 1, 3, 0, 0, 0)] (n_35_57 c K18))
 (sF c [(.iload_n 3, 1, 0, 0, 0)] rI)))))))))
noncomputable def n_35_18 (c : qV) : qF := lp (f_35_18 c) qLF
theorem s_35_18 {G : qG} {d : Nat} {c : qV} (hc : qvok G d c) : Snd G (d + 1) 35 18 (n_35_18 c) := lp_snd (fun K18 h18 => (sF_snd qk_35 hy_35 hc (bF_snd (pc := 22) qk_35 (by decide +kernel)
 (s_35_63 hc)
 (sF_snd qk_35 hy_35 hc (bF_snd (pc := 33) qk_35 (by decide +kernel)
 (s_35_57 hc h18)
 (sF_snd qk_35 hy_35 hc (bF_snd (pc := 44) qk_35 (by decide +kernel)
 (s_35_57 hc h18)
 (sF_snd qk_35 hy_35 hc (bF_snd (pc := 49) qk_35 (by decide +kernel)
 (sF_snd qk_35 hy_35 hc (s_35_57 hc h18) _ 54 (by decide +kernel))
 (sF_snd qk_35 hy_35 hc (rI_snd (pc := 53) qk_35 (by decide +kernel) (by decide +kernel)) _ 52 (by decide +kernel))) _ 47 (by decide +kernel))) _ 36 (by decide +kernel))) _ 25 (by decide +kernel))) _ 18 (by decide +kernel))) _
noncomputable def n_35_0 (c : qV) : qF := (sF c [(.iload_n 1, 1, 0, 0, 0), (.iconst (-1), 1, 0, 0, 0)] (bF (.if_icmp .ge 5, 3, 7, 0, 0)
 (sF c [(.aload_n 0, 1, 0, 0, 0), (.getfield 52, 3, 0, 10, 2), (.invokevirtual 235, 3, 255, 0, 5), (.iconst 0, 1, 0, 0, 0), (.istore_n 2, 1, 0, 0, 0), (.iconst 0, 1, 0, 0, 0), (.istore_n 3, 1, 0, 0, 0)] (n_35_18 c))
 (sF c [(.iconst (-1), 1, 0, 0, 0)] rI)))
theorem s_35_0 {G : qG} {d : Nat} {c : qV} (hc : qvok G d c) : Snd G (d + 1) 35 0 (n_35_0 c) := (sF_snd qk_35 hy_35 hc (bF_snd (pc := 2) qk_35 (by decide +kernel)
 (sF_snd qk_35 hy_35 hc (s_35_18 hc) _ 7 (by decide +kernel))
 (sF_snd qk_35 hy_35 hc (rI_snd (pc := 6) qk_35 (by decide +kernel) (by decide +kernel)) _ 5 (by decide +kernel))) _ 0 (by decide +kernel))
/-! CheesePost.wall(III)I -/
theorem hy_36 : (qnm 36).cls = qocn (qoc 36) := by decide +kernel
noncomputable def n_36_24 (c : qV) : qF := (sF c [(.iconst (-1), 1, 0, 0, 0)] rI)
theorem s_36_24 {G : qG} {d : Nat} {c : qV} (hc : qvok G d c) : Snd G (d + 1) 36 24 (n_36_24 c) := (sF_snd qk_36 hy_36 hc (rI_snd (pc := 25) qk_36 (by decide +kernel) (by decide +kernel)) _ 24 (by decide +kernel))
noncomputable def n_36_109 (c : qV) : qF := rI
theorem s_36_109 {G : qG} {d : Nat} {c : qV} (hc : qvok G d c) : Snd G (d + 1) 36 109 (n_36_109 c) := (rI_snd (pc := 109) qk_36 (by decide +kernel) (by decide +kernel))
noncomputable def n_36_98 (c : qV) : qF := (sF c [(.iload_n 3, 1, 0, 0, 0), (.iconst (-1), 1, 0, 0, 0)] (bF (.if_icmp .ne 8, 3, 108, 0, 0)
 (sF c [(.iconst (-1), 1, 0, 0, 0)] (n_36_109 c))
 (sF c [(.iload 4, 2, 0, 0, 0), (.goto 4, 3, 109, 0, 0)] (n_36_109 c))))
theorem s_36_98 {G : qG} {d : Nat} {c : qV} (hc : qvok G d c) : Snd G (d + 1) 36 98 (n_36_98 c) := (sF_snd qk_36 hy_36 hc (bF_snd (pc := 100) qk_36 (by decide +kernel)
 (sF_snd qk_36 hy_36 hc (s_36_109 hc) _ 108 (by decide +kernel))
 (sF_snd qk_36 hy_36 hc (s_36_109 hc) _ 103 (by decide +kernel))) _ 98 (by decide +kernel))
noncomputable def n_36_92 (c : qV) (K39 : qF) : qF := (sF c [(.iinc 5 1, 3, 0, 0, 0), (.goto (-56), 3, 39, 0, 0)] K39)
theorem s_36_92 {G : qG} {d : Nat} {c : qV} (hc : qvok G d c) {K39 : qF} (h39 : Snd G (d + 1) 36 39 K39) : Snd G (d + 1) 36 92 (n_36_92 c K39) := (sF_snd qk_36 hy_36 hc h39 _ 92 (by decide +kernel))
noncomputable def f_36_39 (c : qV) (K39 : qF) : qF := (sF c [(.iload 5, 2, 0, 0, 0), (.bipush 80, 2, 0, 0, 0)] (bF (.if_icmp .ge 55, 3, 98, 0, 0)
 (n_36_98 c)
 (sF c [(.iload 5, 2, 0, 0, 0), (.aload_n 0, 1, 0, 0, 0), (.getfield 12, 3, 0, 0, 2), (.getfield 128, 3, 1, 0, 2), (.getfield 156, 3, 6, 8, 2), (.iload_n 1, 1, 0, 0, 0), (.invokestatic 311, 3, 63, 1, 0), (.iaload, 1, 0, 0, 0)] (bF (.if_icmp .eq 29, 3, 92, 0, 0)
 (n_36_92 c K39)
 (sF c [(.aload_n 0, 1, 0, 0, 0), (.getfield 68, 3, 0, 12, 2), (.iload_n 1, 1, 0, 0, 0), (.iload 5, 2, 0, 0, 0), (.iload_n 2, 1, 0, 0, 0), (.invokevirtual 386, 3, 245, 3, 3)] (bF (.ifCond .eq 15, 3, 92, 0, 0)
 (n_36_92 c K39)
 (sF c [(.iload 4, 2, 0, 0, 0), (.iload_n 3, 1, 0, 0, 0)] (bF (.if_icmp .ne 6, 3, 89, 0, 0)
 (sF c [(.iinc 4 1, 3, 0, 0, 0)] (n_36_92 c K39))
 (sF c [(.iload 5, 2, 0, 0, 0)] rI)))))))))
noncomputable def n_36_39 (c : qV) : qF := lp (f_36_39 c) qLF
theorem s_36_39 {G : qG} {d : Nat} {c : qV} (hc : qvok G d c) : Snd G (d + 1) 36 39 (n_36_39 c) := lp_snd (fun K39 h39 => (sF_snd qk_36 hy_36 hc (bF_snd (pc := 43) qk_36 (by decide +kernel)
 (s_36_98 hc)
 (sF_snd qk_36 hy_36 hc (bF_snd (pc := 63) qk_36 (by decide +kernel)
 (s_36_92 hc h39)
 (sF_snd qk_36 hy_36 hc (bF_snd (pc := 77) qk_36 (by decide +kernel)
 (s_36_92 hc h39)
 (sF_snd qk_36 hy_36 hc (bF_snd (pc := 83) qk_36 (by decide +kernel)
 (sF_snd qk_36 hy_36 hc (s_36_92 hc h39) _ 89 (by decide +kernel))
 (sF_snd qk_36 hy_36 hc (rI_snd (pc := 88) qk_36 (by decide +kernel) (by decide +kernel)) _ 86 (by decide +kernel))) _ 80 (by decide +kernel))) _ 66 (by decide +kernel))) _ 46 (by decide +kernel))) _ 39 (by decide +kernel))) _
noncomputable def n_36_0 (c : qV) : qF := (sF c [(.aload_n 0, 1, 0, 0, 0), (.getfield 68, 3, 0, 12, 2), (.iload_n 1, 1, 0, 0, 0), (.invokevirtual 284, 3, 229, 1, 3)] (bF (.ifCond .eq 16, 3, 24, 0, 0)
 (n_36_24 c)
 (sF c [(.aload_n 0, 1, 0, 0, 0), (.iload_n 2, 1, 0, 0, 0), (.invokevirtual 171, 3, 54, 1, 0)] (bF (.ifCond .eq 8, 3, 24, 0, 0)
 (n_36_24 c)
 (sF c [(.iload_n 3, 1, 0, 0, 0), (.iconst (-1), 1, 0, 0, 0)] (bF (.if_icmp .ge 5, 3, 26, 0, 0)
 (sF c [(.aload_n 0, 1, 0, 0, 0), (.getfield 52, 3, 0, 10, 2), (.invokevirtual 235, 3, 255, 0, 5), (.iconst 0, 1, 0, 0, 0), (.istore 4, 2, 0, 0, 0), (.iconst 0, 1, 0, 0, 0), (.istore 5, 2, 0, 0, 0)] (n_36_39 c))
 (n_36_24 c)))))))
theorem s_36_0 {G : qG} {d : Nat} {c : qV} (hc : qvok G d c) : Snd G (d + 1) 36 0 (n_36_0 c) := (sF_snd qk_36 hy_36 hc (bF_snd (pc := 8) qk_36 (by decide +kernel)
 (s_36_24 hc)
 (sF_snd qk_36 hy_36 hc (bF_snd (pc := 16) qk_36 (by decide +kernel)
 (s_36_24 hc)
 (sF_snd qk_36 hy_36 hc (bF_snd (pc := 21) qk_36 (by decide +kernel)
 (sF_snd qk_36 hy_36 hc (s_36_39 hc) _ 26 (by decide +kernel))
 (s_36_24 hc)) _ 19 (by decide +kernel))) _ 11 (by decide +kernel))) _ 0 (by decide +kernel))
/-! CheesePost.share(IIII)I -/
theorem hy_37 : (qnm 37).cls = qocn (qoc 37) := by decide +kernel
noncomputable def n_37_29 (c : qV) : qF := (sF c [(.iconst (-1), 1, 0, 0, 0)] rI)
theorem s_37_29 {G : qG} {d : Nat} {c : qV} (hc : qvok G d c) : Snd G (d + 1) 37 29 (n_37_29 c) := (sF_snd qk_37 hy_37 hc (rI_snd (pc := 30) qk_37 (by decide +kernel) (by decide +kernel)) _ 29 (by decide +kernel))
noncomputable def n_37_0 (c : qV) : qF := (sF c [(.iload_n 1, 1, 0, 0, 0), (.invokestatic 389, 3, 61, 1, 0)] (bF (.ifCond .eq 25, 3, 29, 0, 0)
 (n_37_29 c)
 (sF c [(.iload_n 2, 1, 0, 0, 0), (.invokestatic 389, 3, 61, 1, 0)] (bF (.ifCond .eq 18, 3, 29, 0, 0)
 (n_37_29 c)
 (sF c [(.iload_n 3, 1, 0, 0, 0), (.invokestatic 389, 3, 61, 1, 0)] (bF (.ifCond .eq 11, 3, 29, 0, 0)
 (n_37_29 c)
 (sF c [(.iload 4, 2, 0, 0, 0), (.invokestatic 392, 3, 60, 1, 0)] (bF (.ifCond .ne 5, 3, 31, 0, 0)
 (sF c [(.iload_n 1, 1, 0, 0, 0), (.iload_n 2, 1, 0, 0, 0), (.iload 4, 2, 0, 0, 0), (.imul, 1, 0, 0, 0), (.iadd, 1, 0, 0, 0), (.iload_n 3, 1, 0, 0, 0), (.iload 4, 2, 0, 0, 0), (.imul, 1, 0, 0, 0), (.iload 4, 2, 0, 0, 0), (.imul, 1, 0, 0, 0), (.iadd, 1, 0, 0, 0), (.bipush 97, 2, 0, 0, 0), (.irem, 1, 0, 0, 0)] rI)
 (n_37_29 c)))))))))
theorem s_37_0 {G : qG} {d : Nat} {c : qV} (hc : qvok G d c) : Snd G (d + 1) 37 0 (n_37_0 c) := (sF_snd qk_37 hy_37 hc (bF_snd (pc := 4) qk_37 (by decide +kernel)
 (s_37_29 hc)
 (sF_snd qk_37 hy_37 hc (bF_snd (pc := 11) qk_37 (by decide +kernel)
 (s_37_29 hc)
 (sF_snd qk_37 hy_37 hc (bF_snd (pc := 18) qk_37 (by decide +kernel)
 (s_37_29 hc)
 (sF_snd qk_37 hy_37 hc (bF_snd (pc := 26) qk_37 (by decide +kernel)
 (sF_snd qk_37 hy_37 hc (rI_snd (pc := 48) qk_37 (by decide +kernel) (by decide +kernel)) _ 31 (by decide +kernel))
 (s_37_29 hc)) _ 21 (by decide +kernel))) _ 14 (by decide +kernel))) _ 7 (by decide +kernel))) _ 0 (by decide +kernel))
/-! CheesePost.read(IIIIII)I -/
theorem hy_38 : (qnm 38).cls = qocn (qoc 38) := by decide +kernel
noncomputable def n_38_39 (c : qV) : qF := (sF c [(.iconst (-1), 1, 0, 0, 0)] rI)
theorem s_38_39 {G : qG} {d : Nat} {c : qV} (hc : qvok G d c) : Snd G (d + 1) 38 39 (n_38_39 c) := (sF_snd qk_38 hy_38 hc (rI_snd (pc := 40) qk_38 (by decide +kernel) (by decide +kernel)) _ 39 (by decide +kernel))
noncomputable def n_38_64 (c : qV) : qF := (sF c [(.iconst (-1), 1, 0, 0, 0)] rI)
theorem s_38_64 {G : qG} {d : Nat} {c : qV} (hc : qvok G d c) : Snd G (d + 1) 38 64 (n_38_64 c) := (sF_snd qk_38 hy_38 hc (rI_snd (pc := 65) qk_38 (by decide +kernel) (by decide +kernel)) _ 64 (by decide +kernel))
noncomputable def n_38_0 (c : qV) : qF := (sF c [(.iload_n 1, 1, 0, 0, 0), (.invokestatic 392, 3, 60, 1, 0)] (bF (.ifCond .eq 35, 3, 39, 0, 0)
 (n_38_39 c)
 (sF c [(.iload_n 3, 1, 0, 0, 0), (.invokestatic 392, 3, 60, 1, 0)] (bF (.ifCond .eq 28, 3, 39, 0, 0)
 (n_38_39 c)
 (sF c [(.iload 5, 2, 0, 0, 0), (.invokestatic 392, 3, 60, 1, 0)] (bF (.ifCond .eq 20, 3, 39, 0, 0)
 (n_38_39 c)
 (sF c [(.iload_n 1, 1, 0, 0, 0), (.iload_n 3, 1, 0, 0, 0)] (bF (.if_icmp .eq 15, 3, 39, 0, 0)
 (n_38_39 c)
 (sF c [(.iload_n 1, 1, 0, 0, 0), (.iload 5, 2, 0, 0, 0)] (bF (.if_icmp .eq 9, 3, 39, 0, 0)
 (n_38_39 c)
 (sF c [(.iload_n 3, 1, 0, 0, 0), (.iload 5, 2, 0, 0, 0)] (bF (.if_icmp .ne 5, 3, 41, 0, 0)
 (sF c [(.iload_n 2, 1, 0, 0, 0), (.invokestatic 389, 3, 61, 1, 0)] (bF (.ifCond .eq 19, 3, 64, 0, 0)
 (n_38_64 c)
 (sF c [(.iload 4, 2, 0, 0, 0), (.invokestatic 389, 3, 61, 1, 0)] (bF (.ifCond .eq 11, 3, 64, 0, 0)
 (n_38_64 c)
 (sF c [(.iload 6, 2, 0, 0, 0), (.invokestatic 389, 3, 61, 1, 0)] (bF (.ifCond .ne 5, 3, 66, 0, 0)
 (sF c [(.iconst 0, 1, 0, 0, 0), (.iload_n 1, 1, 0, 0, 0), (.iload_n 2, 1, 0, 0, 0), (.iload_n 3, 1, 0, 0, 0), (.iload 4, 2, 0, 0, 0), (.iload 5, 2, 0, 0, 0), (.iload 6, 2, 0, 0, 0), (.invokestatic 395, 3, 68, 7, 0)] rI)
 (n_38_64 c)))))))
 (n_38_39 c)))))))))))))
theorem s_38_0 {G : qG} {d : Nat} {c : qV} (hc : qvok G d c) : Snd G (d + 1) 38 0 (n_38_0 c) := (sF_snd qk_38 hy_38 hc (bF_snd (pc := 4) qk_38 (by decide +kernel)
 (s_38_39 hc)
 (sF_snd qk_38 hy_38 hc (bF_snd (pc := 11) qk_38 (by decide +kernel)
 (s_38_39 hc)
 (sF_snd qk_38 hy_38 hc (bF_snd (pc := 19) qk_38 (by decide +kernel)
 (s_38_39 hc)
 (sF_snd qk_38 hy_38 hc (bF_snd (pc := 24) qk_38 (by decide +kernel)
 (s_38_39 hc)
 (sF_snd qk_38 hy_38 hc (bF_snd (pc := 30) qk_38 (by decide +kernel)
 (s_38_39 hc)
 (sF_snd qk_38 hy_38 hc (bF_snd (pc := 36) qk_38 (by decide +kernel)
 (sF_snd qk_38 hy_38 hc (bF_snd (pc := 45) qk_38 (by decide +kernel)
 (s_38_64 hc)
 (sF_snd qk_38 hy_38 hc (bF_snd (pc := 53) qk_38 (by decide +kernel)
 (s_38_64 hc)
 (sF_snd qk_38 hy_38 hc (bF_snd (pc := 61) qk_38 (by decide +kernel)
 (sF_snd qk_38 hy_38 hc (rI_snd (pc := 79) qk_38 (by decide +kernel) (by decide +kernel)) _ 66 (by decide +kernel))
 (s_38_64 hc)) _ 56 (by decide +kernel))) _ 48 (by decide +kernel))) _ 41 (by decide +kernel))
 (s_38_39 hc)) _ 33 (by decide +kernel))) _ 27 (by decide +kernel))) _ 22 (by decide +kernel))) _ 14 (by decide +kernel))) _ 7 (by decide +kernel))) _ 0 (by decide +kernel))
/-! CheesePost.odd(IIIII)I -/
theorem hy_39 : (qnm 39).cls = qocn (qoc 39) := by decide +kernel
noncomputable def n_39_108 (c : qV) : qF := (sF c [(.iconst (-1), 1, 0, 0, 0)] rI)
theorem s_39_108 {G : qG} {d : Nat} {c : qV} (hc : qvok G d c) : Snd G (d + 1) 39 108 (n_39_108 c) := (sF_snd qk_39 hy_39 hc (rI_snd (pc := 109) qk_39 (by decide +kernel) (by decide +kernel)) _ 108 (by decide +kernel))
noncomputable def f_39_83 (c : qV) (K83 : qF) : qF := (sF c [(.iload 7, 2, 0, 0, 0), (.iconst 5, 1, 0, 0, 0)] (bF (.if_icmp .gt 22, 3, 108, 0, 0)
 (n_39_108 c)
 (sF c [(.aload 6, 2, 0, 0, 0), (.iload 7, 2, 0, 0, 0), (.invokestatic 399, 3, 67, 2, 0)] (bF (.ifCond .eq 6, 3, 102, 0, 0)
 (sF c [(.iinc 7 1, 3, 0, 0, 0), (.goto (-22), 3, 83, 0, 0)] K83)
 (sF c [(.iload 7, 2, 0, 0, 0)] rI)))))
noncomputable def n_39_83 (c : qV) : qF := lp (f_39_83 c) qLF
theorem s_39_83 {G : qG} {d : Nat} {c : qV} (hc : qvok G d c) : Snd G (d + 1) 39 83 (n_39_83 c) := lp_snd (fun K83 h83 => (sF_snd qk_39 hy_39 hc (bF_snd (pc := 86) qk_39 (by decide +kernel)
 (s_39_108 hc)
 (sF_snd qk_39 hy_39 hc (bF_snd (pc := 96) qk_39 (by decide +kernel)
 (sF_snd qk_39 hy_39 hc h83 _ 102 (by decide +kernel))
 (sF_snd qk_39 hy_39 hc (rI_snd (pc := 101) qk_39 (by decide +kernel) (by decide +kernel)) _ 99 (by decide +kernel))) _ 89 (by decide +kernel))) _ 83 (by decide +kernel))) _
noncomputable def n_39_80 (c : qV) : qF := (sF c [(.iconst 1, 1, 0, 0, 0), (.istore 7, 2, 0, 0, 0)] (n_39_83 c))
theorem s_39_80 {G : qG} {d : Nat} {c : qV} (hc : qvok G d c) : Snd G (d + 1) 39 80 (n_39_80 c) := (sF_snd qk_39 hy_39 hc (s_39_83 hc) _ 80 (by decide +kernel))
noncomputable def n_39_60 (c : qV) : qF := (sF c [(.aload 6, 2, 0, 0, 0), (.iconst 4, 1, 0, 0, 0), (.invokestatic 399, 3, 67, 2, 0)] (bF (.ifCond .eq 14, 3, 80, 0, 0)
 (n_39_80 c)
 (sF c [(.aload 6, 2, 0, 0, 0), (.iconst 5, 1, 0, 0, 0), (.invokestatic 399, 3, 67, 2, 0)] (bF (.ifCond .eq 5, 3, 80, 0, 0)
 (n_39_80 c)
 (sF c [(.iconst 0, 1, 0, 0, 0)] rI)))))
theorem s_39_60 {G : qG} {d : Nat} {c : qV} (hc : qvok G d c) : Snd G (d + 1) 39 60 (n_39_60 c) := (sF_snd qk_39 hy_39 hc (bF_snd (pc := 66) qk_39 (by decide +kernel)
 (s_39_80 hc)
 (sF_snd qk_39 hy_39 hc (bF_snd (pc := 75) qk_39 (by decide +kernel)
 (s_39_80 hc)
 (sF_snd qk_39 hy_39 hc (rI_snd (pc := 79) qk_39 (by decide +kernel) (by decide +kernel)) _ 78 (by decide +kernel))) _ 69 (by decide +kernel))) _ 60 (by decide +kernel))
noncomputable def f_39_35 (c : qV) (K35 : qF) : qF := (sF c [(.iload 7, 2, 0, 0, 0), (.iconst 5, 1, 0, 0, 0)] (bF (.if_icmp .gt 22, 3, 60, 0, 0)
 (n_39_60 c)
 (sF c [(.aload 6, 2, 0, 0, 0), (.iload 7, 2, 0, 0, 0), (.iaload, 1, 0, 0, 0), (.invokestatic 389, 3, 61, 1, 0)] (bF (.ifCond .ne 5, 3, 54, 0, 0)
 (sF c [(.iinc 7 1, 3, 0, 0, 0), (.goto (-22), 3, 35, 0, 0)] K35)
 (sF c [(.iconst (-1), 1, 0, 0, 0)] rI)))))
noncomputable def n_39_35 (c : qV) : qF := lp (f_39_35 c) qLF
theorem s_39_35 {G : qG} {d : Nat} {c : qV} (hc : qvok G d c) : Snd G (d + 1) 39 35 (n_39_35 c) := lp_snd (fun K35 h35 => (sF_snd qk_39 hy_39 hc (bF_snd (pc := 38) qk_39 (by decide +kernel)
 (s_39_60 hc)
 (sF_snd qk_39 hy_39 hc (bF_snd (pc := 49) qk_39 (by decide +kernel)
 (sF_snd qk_39 hy_39 hc h35 _ 54 (by decide +kernel))
 (sF_snd qk_39 hy_39 hc (rI_snd (pc := 53) qk_39 (by decide +kernel) (by decide +kernel)) _ 52 (by decide +kernel))) _ 41 (by decide +kernel))) _ 35 (by decide +kernel))) _
noncomputable def n_39_0 (c : qV) : qF := (sF c [(.bipush 6, 2, 0, 0, 0), (.newarray .int, 2, 100, 0, 0), (.dup, 1, 0, 0, 0), (.iconst 0, 1, 0, 0, 0), (.iconst 0, 1, 0, 0, 0), (.iastore, 1, 0, 0, 0), (.dup, 1, 0, 0, 0), (.iconst 1, 1, 0, 0, 0), (.iload_n 1, 1, 0, 0, 0), (.iastore, 1, 0, 0, 0), (.dup, 1, 0, 0, 0), (.iconst 2, 1, 0, 0, 0), (.iload_n 2, 1, 0, 0, 0), (.iastore, 1, 0, 0, 0), (.dup, 1, 0, 0, 0), (.iconst 3, 1, 0, 0, 0), (.iload_n 3, 1, 0, 0, 0), (.iastore, 1, 0, 0, 0), (.dup, 1, 0, 0, 0), (.iconst 4, 1, 0, 0, 0), (.iload 4, 2, 0, 0, 0), (.iastore, 1, 0, 0, 0), (.dup, 1, 0, 0, 0), (.iconst 5, 1, 0, 0, 0), (.iload 5, 2, 0, 0, 0), (.iastore, 1, 0, 0, 0), (.astore 6, 2, 0, 0, 0), (.iconst 1, 1, 0, 0, 0), (.istore 7, 2, 0, 0, 0)] (n_39_35 c))
theorem s_39_0 {G : qG} {d : Nat} {c : qV} (hc : qvok G d c) : Snd G (d + 1) 39 0 (n_39_0 c) := (sF_snd qk_39 hy_39 hc (s_39_35 hc) _ 0 (by decide +kernel))
/-! CheesePost.reply(II)I -/
theorem hy_40 : (qnm 40).cls = qocn (qoc 40) := by decide +kernel
noncomputable def n_40_0 (c : qV) : qF := (sF c [(.iload_n 2, 1, 0, 0, 0), (.iconst 0, 1, 0, 0, 0), (.bipush 9, 2, 0, 0, 0), (.invokestatic 120, 3, 57, 3, 0)] (bF (.ifCond .ne 9, 3, 16, 0, 0)
 (sF c [(.aload_n 0, 1, 0, 0, 0), (.iload_n 1, 1, 0, 0, 0), (.invokevirtual 171, 3, 54, 1, 0)] (bF (.ifCond .ne 10, 3, 31, 0, 0)
 (sF c [(.aload_n 0, 1, 0, 0, 0), (.getfield 12, 3, 0, 0, 2), (.getfield 128, 3, 1, 0, 2), (.getfield 403, 3, 6, 7, 2), (.iload_n 1, 1, 0, 0, 0), (.iaload, 1, 0, 0, 0), (.istore_n 3, 1, 0, 0, 0), (.aload_n 0, 1, 0, 0, 0), (.getfield 12, 3, 0, 0, 2), (.getfield 128, 3, 1, 0, 2), (.getfield 403, 3, 6, 7, 2), (.iload_n 1, 1, 0, 0, 0), (.iload_n 2, 1, 0, 0, 0), (.iastore, 1, 0, 0, 0), (.aload_n 0, 1, 0, 0, 0), (.iload_n 3, 1, 0, 0, 0), (.invokevirtual 137, 3, 49, 1, 0)] rI)
 (sF c [(.aload_n 0, 1, 0, 0, 0), (.bipush (-2), 2, 0, 0, 0), (.invokevirtual 124, 3, 48, 1, 0)] rI)))
 (sF c [(.aload_n 0, 1, 0, 0, 0), (.iconst (-1), 1, 0, 0, 0), (.invokevirtual 124, 3, 48, 1, 0)] rI)))
theorem s_40_0 {G : qG} {d : Nat} {c : qV} (hc : qvok G d c) : Snd G (d + 1) 40 0 (n_40_0 c) := (sF_snd qk_40 hy_40 hc (bF_snd (pc := 7) qk_40 (by decide +kernel)
 (sF_snd qk_40 hy_40 hc (bF_snd (pc := 21) qk_40 (by decide +kernel)
 (sF_snd qk_40 hy_40 hc (rI_snd (pc := 62) qk_40 (by decide +kernel) (by decide +kernel)) _ 31 (by decide +kernel))
 (sF_snd qk_40 hy_40 hc (rI_snd (pc := 30) qk_40 (by decide +kernel) (by decide +kernel)) _ 24 (by decide +kernel))) _ 16 (by decide +kernel))
 (sF_snd qk_40 hy_40 hc (rI_snd (pc := 15) qk_40 (by decide +kernel) (by decide +kernel)) _ 10 (by decide +kernel))) _ 0 (by decide +kernel))
/-! CheesePost.trips(II)I -/
theorem hy_41 : (qnm 41).cls = qocn (qoc 41) := by decide +kernel
noncomputable def n_41_17 (c : qV) : qF := (sF c [(.iconst (-1), 1, 0, 0, 0)] rI)
theorem s_41_17 {G : qG} {d : Nat} {c : qV} (hc : qvok G d c) : Snd G (d + 1) 41 17 (n_41_17 c) := (sF_snd qk_41 hy_41 hc (rI_snd (pc := 18) qk_41 (by decide +kernel) (by decide +kernel)) _ 17 (by decide +kernel))
noncomputable def n_41_77 (c : qV) : qF := rI
theorem s_41_77 {G : qG} {d : Nat} {c : qV} (hc : qvok G d c) : Snd G (d + 1) 41 77 (n_41_77 c) := (rI_snd (pc := 77) qk_41 (by decide +kernel) (by decide +kernel))
noncomputable def n_41_0 (c : qV) : qF := (sF c [(.aload_n 0, 1, 0, 0, 0), (.iload_n 1, 1, 0, 0, 0), (.invokevirtual 314, 3, 55, 1, 0)] (bF (.ifCond .eq 12, 3, 17, 0, 0)
 (n_41_17 c)
 (sF c [(.iload_n 2, 1, 0, 0, 0), (.iconst 0, 1, 0, 0, 0), (.iconst 2, 1, 0, 0, 0), (.invokestatic 120, 3, 57, 3, 0)] (bF (.ifCond .ne 5, 3, 19, 0, 0)
 (sF c [(.aload_n 0, 1, 0, 0, 0), (.getfield 100, 3, 0, 16, 2), (.aload_n 0, 1, 0, 0, 0), (.getfield 12, 3, 0, 0, 2), (.getfield 128, 3, 1, 0, 2), (.getfield 156, 3, 6, 8, 2), (.iload_n 1, 1, 0, 0, 0), (.iaload, 1, 0, 0, 0), (.invokevirtual 406, 3, 218, 1, 2)] (bF (.ifCond .ne 5, 3, 43, 0, 0)
 (sF c [(.iload_n 2, 1, 0, 0, 0), (.iconst 2, 1, 0, 0, 0)] (bF (.if_icmp .ne 11, 3, 56, 0, 0)
 (sF c [(.iload_n 2, 1, 0, 0, 0)] (bF (.ifCond .ne 13, 3, 70, 0, 0)
 (sF c [(.aload_n 0, 1, 0, 0, 0), (.getfield 100, 3, 0, 16, 2), (.invokevirtual 415, 3, 220, 0, 2)] (n_41_77 c))
 (sF c [(.aload_n 0, 1, 0, 0, 0), (.getfield 100, 3, 0, 16, 2), (.invokevirtual 412, 3, 219, 0, 2), (.goto 10, 3, 77, 0, 0)] (n_41_77 c))))
 (sF c [(.aload_n 0, 1, 0, 0, 0), (.getfield 100, 3, 0, 16, 2), (.invokevirtual 409, 3, 221, 0, 2)] rI)))
 (sF c [(.iconst (-1), 1, 0, 0, 0)] rI)))
 (n_41_17 c)))))
theorem s_41_0 {G : qG} {d : Nat} {c : qV} (hc : qvok G d c) : Snd G (d + 1) 41 0 (n_41_0 c) := (sF_snd qk_41 hy_41 hc (bF_snd (pc := 5) qk_41 (by decide +kernel)
 (s_41_17 hc)
 (sF_snd qk_41 hy_41 hc (bF_snd (pc := 14) qk_41 (by decide +kernel)
 (sF_snd qk_41 hy_41 hc (bF_snd (pc := 38) qk_41 (by decide +kernel)
 (sF_snd qk_41 hy_41 hc (bF_snd (pc := 45) qk_41 (by decide +kernel)
 (sF_snd qk_41 hy_41 hc (bF_snd (pc := 57) qk_41 (by decide +kernel)
 (sF_snd qk_41 hy_41 hc (s_41_77 hc) _ 70 (by decide +kernel))
 (sF_snd qk_41 hy_41 hc (s_41_77 hc) _ 60 (by decide +kernel))) _ 56 (by decide +kernel))
 (sF_snd qk_41 hy_41 hc (rI_snd (pc := 55) qk_41 (by decide +kernel) (by decide +kernel)) _ 48 (by decide +kernel))) _ 43 (by decide +kernel))
 (sF_snd qk_41 hy_41 hc (rI_snd (pc := 42) qk_41 (by decide +kernel) (by decide +kernel)) _ 41 (by decide +kernel))) _ 19 (by decide +kernel))
 (s_41_17 hc)) _ 8 (by decide +kernel))) _ 0 (by decide +kernel))
/-! CheesePost.summer(II)I -/
theorem hy_42 : (qnm 42).cls = qocn (qoc 42) := by decide +kernel
noncomputable def n_42_21 (c : qV) : qF := (sF c [(.aload_n 0, 1, 0, 0, 0), (.iconst (-1), 1, 0, 0, 0), (.invokevirtual 124, 3, 48, 1, 0)] rI)
theorem s_42_21 {G : qG} {d : Nat} {c : qV} (hc : qvok G d c) : Snd G (d + 1) 42 21 (n_42_21 c) := (sF_snd qk_42 hy_42 hc (rI_snd (pc := 26) qk_42 (by decide +kernel) (by decide +kernel)) _ 21 (by decide +kernel))
noncomputable def n_42_128 (c : qV) : qF := (sF c [(.aload_n 0, 1, 0, 0, 0), (.iload_n 3, 1, 0, 0, 0), (.invokevirtual 137, 3, 49, 1, 0)] rI)
theorem s_42_128 {G : qG} {d : Nat} {c : qV} (hc : qvok G d c) : Snd G (d + 1) 42 128 (n_42_128 c) := (sF_snd qk_42 hy_42 hc (rI_snd (pc := 133) qk_42 (by decide +kernel) (by decide +kernel)) _ 128 (by decide +kernel))
noncomputable def n_42_122 (c : qV) (K59 : qF) : qF := (sF c [(.iinc 4 1, 3, 0, 0, 0), (.goto (-66), 3, 59, 0, 0)] K59)
theorem s_42_122 {G : qG} {d : Nat} {c : qV} (hc : qvok G d c) {K59 : qF} (h59 : Snd G (d + 1) 42 59 K59) : Snd G (d + 1) 42 122 (n_42_122 c K59) := (sF_snd qk_42 hy_42 hc h59 _ 122 (by decide +kernel))
noncomputable def f_42_59 (c : qV) (K59 : qF) : qF := (sF c [(.iload 4, 2, 0, 0, 0), (.iload_n 2, 1, 0, 0, 0)] (bF (.if_icmp .ge 66, 3, 128, 0, 0)
 (n_42_128 c)
 (sF c [(.aload_n 0, 1, 0, 0, 0), (.getfield 12, 3, 0, 0, 2), (.getfield 159, 3, 1, 10, 0)] (bF (.ifCond .le 56, 3, 128, 0, 0)
 (n_42_128 c)
 (sF c [(.aload_n 0, 1, 0, 0, 0), (.getfield 12, 3, 0, 0, 2), (.getfield 128, 3, 1, 0, 2), (.getfield 153, 3, 6, 10, 0)] (bF (.ifCond .le 43, 3, 128, 0, 0)
 (n_42_128 c)
 (sF c [(.aload_n 0, 1, 0, 0, 0), (.invokevirtual 422, 3, 52, 0, 0), (.aload_n 0, 1, 0, 0, 0), (.getfield 104, 3, 0, 17, 2), (.aload_n 0, 1, 0, 0, 0), (.getfield 61, 3, 0, 11, 2), (.getfield 259, 3, 8, 4, 0), (.dup2, 1, 0, 0, 0), (.iaload, 1, 0, 0, 0), (.iconst 1, 1, 0, 0, 0), (.iadd, 1, 0, 0, 0), (.iastore, 1, 0, 0, 0), (.aload_n 0, 1, 0, 0, 0), (.getfield 61, 3, 0, 11, 2), (.getfield 262, 3, 8, 8, 0), (.iconst 2, 1, 0, 0, 0)] (bF (.if_icmp .ne 6, 3, 122, 0, 0)
 (n_42_122 c K59)
 (sF c [(.iinc 3 1, 3, 0, 0, 0)] (n_42_122 c K59))))))))))
noncomputable def n_42_59 (c : qV) : qF := lp (f_42_59 c) qLF
theorem s_42_59 {G : qG} {d : Nat} {c : qV} (hc : qvok G d c) : Snd G (d + 1) 42 59 (n_42_59 c) := lp_snd (fun K59 h59 => (sF_snd qk_42 hy_42 hc (bF_snd (pc := 62) qk_42 (by decide +kernel)
 (s_42_128 hc)
 (sF_snd qk_42 hy_42 hc (bF_snd (pc := 72) qk_42 (by decide +kernel)
 (s_42_128 hc)
 (sF_snd qk_42 hy_42 hc (bF_snd (pc := 85) qk_42 (by decide +kernel)
 (s_42_128 hc)
 (sF_snd qk_42 hy_42 hc (bF_snd (pc := 116) qk_42 (by decide +kernel)
 (s_42_122 hc h59)
 (sF_snd qk_42 hy_42 hc (s_42_122 hc h59) _ 119 (by decide +kernel))) _ 88 (by decide +kernel))) _ 75 (by decide +kernel))) _ 65 (by decide +kernel))) _ 59 (by decide +kernel))) _
noncomputable def n_42_0 (c : qV) : qF := (sF c [(.iload_n 1, 1, 0, 0, 0), (.iconst 0, 1, 0, 0, 0), (.ldc_w 418, 3, 0, 0, 1000000), (.invokestatic 120, 3, 57, 3, 0)] (bF (.ifCond .eq 13, 3, 21, 0, 0)
 (n_42_21 c)
 (sF c [(.iload_n 2, 1, 0, 0, 0), (.iconst 1, 1, 0, 0, 0), (.bipush 30, 2, 0, 0, 0), (.invokestatic 120, 3, 57, 3, 0)] (bF (.ifCond .ne 9, 3, 27, 0, 0)
 (sF c [(.aload_n 0, 1, 0, 0, 0), (.getfield 104, 3, 0, 17, 2), (.iconst 0, 1, 0, 0, 0), (.invokestatic 110, 3, 329, 2, 0), (.aload_n 0, 1, 0, 0, 0), (.getfield 52, 3, 0, 10, 2), (.invokevirtual 235, 3, 255, 0, 5), (.aload_n 0, 1, 0, 0, 0), (.getfield 61, 3, 0, 11, 2), (.invokevirtual 419, 3, 289, 0, 8), (.aload_n 0, 1, 0, 0, 0), (.iload_n 1, 1, 0, 0, 0), (.putfield 107, 3, 0, 18, 0), (.iconst 0, 1, 0, 0, 0), (.istore_n 3, 1, 0, 0, 0), (.iconst 0, 1, 0, 0, 0), (.istore 4, 2, 0, 0, 0)] (n_42_59 c))
 (n_42_21 c)))))
theorem s_42_0 {G : qG} {d : Nat} {c : qV} (hc : qvok G d c) : Snd G (d + 1) 42 0 (n_42_0 c) := (sF_snd qk_42 hy_42 hc (bF_snd (pc := 8) qk_42 (by decide +kernel)
 (s_42_21 hc)
 (sF_snd qk_42 hy_42 hc (bF_snd (pc := 18) qk_42 (by decide +kernel)
 (sF_snd qk_42 hy_42 hc (s_42_59 hc) _ 27 (by decide +kernel))
 (s_42_21 hc)) _ 11 (by decide +kernel))) _ 0 (by decide +kernel))
/-! CheesePost.drawn(I)I -/
theorem hy_43 : (qnm 43).cls = qocn (qoc 43) := by decide +kernel
noncomputable def n_43_17 (c : qV) : qF := rI
theorem s_43_17 {G : qG} {d : Nat} {c : qV} (hc : qvok G d c) : Snd G (d + 1) 43 17 (n_43_17 c) := (rI_snd (pc := 17) qk_43 (by decide +kernel) (by decide +kernel))
noncomputable def n_43_0 (c : qV) : qF := (sF c [(.iload_n 1, 1, 0, 0, 0), (.invokestatic 302, 3, 59, 1, 0)] (bF (.ifCond .eq 12, 3, 16, 0, 0)
 (sF c [(.iconst (-1), 1, 0, 0, 0)] (n_43_17 c))
 (sF c [(.aload_n 0, 1, 0, 0, 0), (.getfield 104, 3, 0, 17, 2), (.iload_n 1, 1, 0, 0, 0), (.iaload, 1, 0, 0, 0), (.goto 4, 3, 17, 0, 0)] (n_43_17 c))))
theorem s_43_0 {G : qG} {d : Nat} {c : qV} (hc : qvok G d c) : Snd G (d + 1) 43 0 (n_43_0 c) := (sF_snd qk_43 hy_43 hc (bF_snd (pc := 4) qk_43 (by decide +kernel)
 (sF_snd qk_43 hy_43 hc (s_43_17 hc) _ 16 (by decide +kernel))
 (sF_snd qk_43 hy_43 hc (s_43_17 hc) _ 7 (by decide +kernel))) _ 0 (by decide +kernel))
/-! CheesePost.image(I)I -/
theorem hy_44 : (qnm 44).cls = qocn (qoc 44) := by decide +kernel
noncomputable def n_44_0 (c : qV) : qF := (sF c [(.iload_n 1, 1, 0, 0, 0), (.iconst 0, 1, 0, 0, 0), (.iconst 1, 1, 0, 0, 0), (.invokestatic 120, 3, 57, 3, 0)] (bF (.ifCond .ne 9, 3, 15, 0, 0)
 (sF c [(.aload_n 0, 1, 0, 0, 0), (.getfield 16, 3, 0, 1, 2), (.iload_n 1, 1, 0, 0, 0), (.aaload, 1, 0, 0, 0), (.aload_n 0, 1, 0, 0, 0), (.getfield 12, 3, 0, 0, 2), (.invokevirtual 425, 3, 216, 1, 1), (.aload_n 0, 1, 0, 0, 0), (.getfield 20, 3, 0, 2, 2), (.iload_n 1, 1, 0, 0, 0), (.iconst 1, 1, 0, 0, 0), (.bastore, 1, 0, 0, 0), (.aload_n 0, 1, 0, 0, 0), (.iconst 0, 1, 0, 0, 0), (.invokevirtual 137, 3, 49, 1, 0)] rI)
 (sF c [(.aload_n 0, 1, 0, 0, 0), (.iconst (-1), 1, 0, 0, 0), (.invokevirtual 124, 3, 48, 1, 0)] rI)))
theorem s_44_0 {G : qG} {d : Nat} {c : qV} (hc : qvok G d c) : Snd G (d + 1) 44 0 (n_44_0 c) := (sF_snd qk_44 hy_44 hc (bF_snd (pc := 6) qk_44 (by decide +kernel)
 (sF_snd qk_44 hy_44 hc (rI_snd (pc := 40) qk_44 (by decide +kernel) (by decide +kernel)) _ 15 (by decide +kernel))
 (sF_snd qk_44 hy_44 hc (rI_snd (pc := 14) qk_44 (by decide +kernel) (by decide +kernel)) _ 9 (by decide +kernel))) _ 0 (by decide +kernel))
/-! CheesePost.back(I)I -/
theorem hy_45 : (qnm 45).cls = qocn (qoc 45) := by decide +kernel
noncomputable def n_45_0 (c : qV) : qF := (sF c [(.iload_n 1, 1, 0, 0, 0), (.iconst 0, 1, 0, 0, 0), (.iconst 1, 1, 0, 0, 0), (.invokestatic 120, 3, 57, 3, 0)] (bF (.ifCond .ne 9, 3, 15, 0, 0)
 (sF c [(.aload_n 0, 1, 0, 0, 0), (.getfield 20, 3, 0, 2, 2), (.iload_n 1, 1, 0, 0, 0), (.baload, 1, 0, 0, 0)] (bF (.ifCond .ne 10, 3, 31, 0, 0)
 (sF c [(.aload_n 0, 1, 0, 0, 0), (.getfield 12, 3, 0, 0, 2), (.aload_n 0, 1, 0, 0, 0), (.getfield 16, 3, 0, 1, 2), (.iload_n 1, 1, 0, 0, 0), (.aaload, 1, 0, 0, 0), (.invokevirtual 425, 3, 216, 1, 1), (.aload_n 0, 1, 0, 0, 0), (.getfield 77, 3, 0, 13, 2), (.iconst 0, 1, 0, 0, 0), (.putfield 320, 3, 9, 7, 0), (.aload_n 0, 1, 0, 0, 0), (.iconst 0, 1, 0, 0, 0), (.invokevirtual 137, 3, 49, 1, 0)] rI)
 (sF c [(.aload_n 0, 1, 0, 0, 0), (.bipush (-2), 2, 0, 0, 0), (.invokevirtual 124, 3, 48, 1, 0)] rI)))
 (sF c [(.aload_n 0, 1, 0, 0, 0), (.iconst (-1), 1, 0, 0, 0), (.invokevirtual 124, 3, 48, 1, 0)] rI)))
theorem s_45_0 {G : qG} {d : Nat} {c : qV} (hc : qvok G d c) : Snd G (d + 1) 45 0 (n_45_0 c) := (sF_snd qk_45 hy_45 hc (bF_snd (pc := 6) qk_45 (by decide +kernel)
 (sF_snd qk_45 hy_45 hc (bF_snd (pc := 21) qk_45 (by decide +kernel)
 (sF_snd qk_45 hy_45 hc (rI_snd (pc := 57) qk_45 (by decide +kernel) (by decide +kernel)) _ 31 (by decide +kernel))
 (sF_snd qk_45 hy_45 hc (rI_snd (pc := 30) qk_45 (by decide +kernel) (by decide +kernel)) _ 24 (by decide +kernel))) _ 15 (by decide +kernel))
 (sF_snd qk_45 hy_45 hc (rI_snd (pc := 14) qk_45 (by decide +kernel) (by decide +kernel)) _ 9 (by decide +kernel))) _ 0 (by decide +kernel))
/-! CheesePost.count(I)I -/
theorem hy_46 : (qnm 46).cls = qocn (qoc 46) := by decide +kernel
noncomputable def n_46_218 (c : qV) : qF := (sF c [(.iconst (-1), 1, 0, 0, 0)] rI)
theorem s_46_218 {G : qG} {d : Nat} {c : qV} (hc : qvok G d c) : Snd G (d + 1) 46 218 (n_46_218 c) := (sF_snd qk_46 hy_46 hc (rI_snd (pc := 219) qk_46 (by decide +kernel) (by decide +kernel)) _ 218 (by decide +kernel))
noncomputable def n_46_0 (c : qV) : qF := (sF c [(.iload_n 1, 1, 0, 0, 0), (.bipush 10, 2, 0, 0, 0), (.bipush 14, 2, 0, 0, 0), (.invokestatic 120, 3, 57, 3, 0)] (bF (.ifCond .eq 13, 3, 21, 0, 0)
 (sF c [(.iload_n 1, 1, 0, 0, 0), (.bipush 16, 2, 0, 0, 0), (.bipush 19, 2, 0, 0, 0), (.invokestatic 120, 3, 57, 3, 0)] (bF (.ifCond .eq 16, 3, 45, 0, 0)
 (sF c [(.iload_n 1, 1, 0, 0, 0)] (swF 0 [(sF c [(.aload_n 0, 1, 0, 0, 0), (.getfield 12, 3, 0, 0, 2), (.getfield 128, 3, 1, 0, 2), (.getfield 146, 3, 6, 9, 0)] rI),
 (sF c [(.aload_n 0, 1, 0, 0, 0), (.getfield 12, 3, 0, 0, 2), (.getfield 128, 3, 1, 0, 2), (.getfield 153, 3, 6, 10, 0)] rI),
 (sF c [(.aload_n 0, 1, 0, 0, 0), (.getfield 12, 3, 0, 0, 2), (.getfield 159, 3, 1, 10, 0)] rI),
 (sF c [(.aload_n 0, 1, 0, 0, 0), (.getfield 12, 3, 0, 0, 2), (.invokevirtual 428, 3, 215, 0, 1)] rI),
 (sF c [(.aload_n 0, 1, 0, 0, 0), (.getfield 12, 3, 0, 0, 2), (.getfield 174, 3, 1, 11, 0)] rI),
 (sF c [(.aload_n 0, 1, 0, 0, 0), (.getfield 12, 3, 0, 0, 2), (.getfield 205, 3, 1, 12, 0)] rI),
 (sF c [(.aload_n 0, 1, 0, 0, 0), (.getfield 12, 3, 0, 0, 2), (.getfield 374, 3, 1, 14, 0)] rI),
 (sF c [(.aload_n 0, 1, 0, 0, 0), (.getfield 12, 3, 0, 0, 2), (.getfield 128, 3, 1, 0, 2), (.invokevirtual 431, 3, 264, 0, 6)] rI),
 (sF c [(.aload_n 0, 1, 0, 0, 0), (.getfield 77, 3, 0, 13, 2), (.getfield 320, 3, 9, 7, 0)] rI),
 (sF c [(.aload_n 0, 1, 0, 0, 0), (.getfield 28, 3, 0, 4, 0)] rI),
 (n_46_218 c),
 (n_46_218 c),
 (n_46_218 c),
 (n_46_218 c),
 (n_46_218 c),
 (sF c [(.aload_n 0, 1, 0, 0, 0), (.getfield 12, 3, 0, 0, 2), (.getfield 248, 3, 1, 13, 0)] rI)] (n_46_218 c)))
 (sF c [(.aload_n 0, 1, 0, 0, 0), (.getfield 12, 3, 0, 0, 2), (.getfield 198, 3, 1, 6, 2), (.iload_n 1, 1, 0, 0, 0), (.bipush 16, 2, 0, 0, 0), (.isub, 1, 0, 0, 0), (.iaload, 1, 0, 0, 0)] rI)))
 (sF c [(.aload_n 0, 1, 0, 0, 0), (.getfield 44, 3, 0, 9, 2), (.iload_n 1, 1, 0, 0, 0), (.bipush 10, 2, 0, 0, 0), (.isub, 1, 0, 0, 0), (.iaload, 1, 0, 0, 0)] rI)))
theorem s_46_0 {G : qG} {d : Nat} {c : qV} (hc : qvok G d c) : Snd G (d + 1) 46 0 (n_46_0 c) := (sF_snd qk_46 hy_46 hc (bF_snd (pc := 8) qk_46 (by decide +kernel)
 (sF_snd qk_46 hy_46 hc (bF_snd (pc := 29) qk_46 (by decide +kernel)
 (sF_snd qk_46 hy_46 hc (swF_snd (pc := 46) (lo := 0) (df := 218) qk_46 (by decide +kernel) (Snds_c (t := 124) (sF_snd qk_46 hy_46 hc (rI_snd (pc := 134) qk_46 (by decide +kernel) (by decide +kernel)) _ 124 (by decide +kernel)) (Snds_c (t := 135) (sF_snd qk_46 hy_46 hc (rI_snd (pc := 145) qk_46 (by decide +kernel) (by decide +kernel)) _ 135 (by decide +kernel)) (Snds_c (t := 146) (sF_snd qk_46 hy_46 hc (rI_snd (pc := 153) qk_46 (by decide +kernel) (by decide +kernel)) _ 146 (by decide +kernel)) (Snds_c (t := 154) (sF_snd qk_46 hy_46 hc (rI_snd (pc := 161) qk_46 (by decide +kernel) (by decide +kernel)) _ 154 (by decide +kernel)) (Snds_c (t := 162) (sF_snd qk_46 hy_46 hc (rI_snd (pc := 169) qk_46 (by decide +kernel) (by decide +kernel)) _ 162 (by decide +kernel)) (Snds_c (t := 170) (sF_snd qk_46 hy_46 hc (rI_snd (pc := 177) qk_46 (by decide +kernel) (by decide +kernel)) _ 170 (by decide +kernel)) (Snds_c (t := 178) (sF_snd qk_46 hy_46 hc (rI_snd (pc := 185) qk_46 (by decide +kernel) (by decide +kernel)) _ 178 (by decide +kernel)) (Snds_c (t := 186) (sF_snd qk_46 hy_46 hc (rI_snd (pc := 196) qk_46 (by decide +kernel) (by decide +kernel)) _ 186 (by decide +kernel)) (Snds_c (t := 197) (sF_snd qk_46 hy_46 hc (rI_snd (pc := 204) qk_46 (by decide +kernel) (by decide +kernel)) _ 197 (by decide +kernel)) (Snds_c (t := 205) (sF_snd qk_46 hy_46 hc (rI_snd (pc := 209) qk_46 (by decide +kernel) (by decide +kernel)) _ 205 (by decide +kernel)) (Snds_c (t := 218) (s_46_218 hc) (Snds_c (t := 218) (s_46_218 hc) (Snds_c (t := 218) (s_46_218 hc) (Snds_c (t := 218) (s_46_218 hc) (Snds_c (t := 218) (s_46_218 hc) (Snds_c (t := 210) (sF_snd qk_46 hy_46 hc (rI_snd (pc := 217) qk_46 (by decide +kernel) (by decide +kernel)) _ 210 (by decide +kernel)) Snds_n)))))))))))))))) (s_46_218 hc)) _ 45 (by decide +kernel))
 (sF_snd qk_46 hy_46 hc (rI_snd (pc := 44) qk_46 (by decide +kernel) (by decide +kernel)) _ 32 (by decide +kernel))) _ 21 (by decide +kernel))
 (sF_snd qk_46 hy_46 hc (rI_snd (pc := 20) qk_46 (by decide +kernel) (by decide +kernel)) _ 11 (by decide +kernel))) _ 0 (by decide +kernel))
/-! CheesePost.status()I -/
theorem hy_47 : (qnm 47).cls = qocn (qoc 47) := by decide +kernel
noncomputable def n_47_0 (c : qV) : qF := (sF c [(.aload_n 0, 1, 0, 0, 0), (.getfield 41, 3, 0, 8, 0)] rI)
theorem s_47_0 {G : qG} {d : Nat} {c : qV} (hc : qvok G d c) : Snd G (d + 1) 47 0 (n_47_0 c) := (sF_snd qk_47 hy_47 hc (rI_snd (pc := 4) qk_47 (by decide +kernel) (by decide +kernel)) _ 0 (by decide +kernel))
/-! CheesePost.refused(I)I -/
theorem hy_48 : (qnm 48).cls = qocn (qoc 48) := by decide +kernel
noncomputable def n_48_26 (c : qV) : qF := (sF c [(.dup2, 1, 0, 0, 0), (.iaload, 1, 0, 0, 0), (.iconst 1, 1, 0, 0, 0), (.iadd, 1, 0, 0, 0), (.iastore, 1, 0, 0, 0), (.iload_n 1, 1, 0, 0, 0)] rI)
theorem s_48_26 {G : qG} {d : Nat} {c : qV} (hc : qvok G d c) : Snd G (d + 1) 48 26 (n_48_26 c) := (sF_snd qk_48 hy_48 hc (rI_snd (pc := 32) qk_48 (by decide +kernel) (by decide +kernel)) _ 26 (by decide +kernel))
noncomputable def n_48_0 (c : qV) : qF := (sF c [(.aload_n 0, 1, 0, 0, 0), (.iload_n 1, 1, 0, 0, 0), (.putfield 41, 3, 0, 8, 0), (.aload_n 0, 1, 0, 0, 0), (.getfield 44, 3, 0, 9, 2), (.iload_n 1, 1, 0, 0, 0), (.bipush (-3), 2, 0, 0, 0)] (bF (.if_icmp .lt 10, 3, 22, 0, 0)
 (sF c [(.iload_n 1, 1, 0, 0, 0), (.ineg, 1, 0, 0, 0), (.iconst 2, 1, 0, 0, 0), (.isub, 1, 0, 0, 0)] (n_48_26 c))
 (sF c [(.iload_n 1, 1, 0, 0, 0), (.ineg, 1, 0, 0, 0), (.iconst 1, 1, 0, 0, 0), (.isub, 1, 0, 0, 0), (.goto 7, 3, 26, 0, 0)] (n_48_26 c))))
theorem s_48_0 {G : qG} {d : Nat} {c : qV} (hc : qvok G d c) : Snd G (d + 1) 48 0 (n_48_0 c) := (sF_snd qk_48 hy_48 hc (bF_snd (pc := 12) qk_48 (by decide +kernel)
 (sF_snd qk_48 hy_48 hc (s_48_26 hc) _ 22 (by decide +kernel))
 (sF_snd qk_48 hy_48 hc (s_48_26 hc) _ 15 (by decide +kernel))) _ 0 (by decide +kernel))
/-! CheesePost.answered(I)I -/
theorem hy_49 : (qnm 49).cls = qocn (qoc 49) := by decide +kernel
noncomputable def n_49_0 (c : qV) : qF := (sF c [(.aload_n 0, 1, 0, 0, 0), (.iconst 0, 1, 0, 0, 0), (.putfield 41, 3, 0, 8, 0), (.iload_n 1, 1, 0, 0, 0)] rI)
theorem s_49_0 {G : qG} {d : Nat} {c : qV} (hc : qvok G d c) : Snd G (d + 1) 49 0 (n_49_0 c) := (sF_snd qk_49 hy_49 hc (rI_snd (pc := 6) qk_49 (by decide +kernel) (by decide +kernel)) _ 0 (by decide +kernel))
/-! CheesePost.putFour(I)V -/
theorem hy_50 : (qnm 50).cls = qocn (qoc 50) := by decide +kernel
noncomputable def n_50_49 (c : qV) : qF := rV
theorem s_50_49 {G : qG} {d : Nat} {c : qV} (hc : qvok G d c) : Snd G (d + 1) 50 49 (n_50_49 c) := (rV_snd (pc := 49) qk_50 (by decide +kernel) (by decide +kernel))
noncomputable def f_50_3 (c : qV) (K3 : qF) : qF := (sF c [(.iload_n 2, 1, 0, 0, 0)] (bF (.ifCond .lt 45, 3, 49, 0, 0)
 (n_50_49 c)
 (sF c [(.aload_n 0, 1, 0, 0, 0), (.getfield 28, 3, 0, 4, 0), (.sipush 400, 3, 0, 0, 0)] (bF (.if_icmp .ge 35, 3, 49, 0, 0)
 (n_50_49 c)
 (sF c [(.aload_n 0, 1, 0, 0, 0), (.getfield 24, 3, 0, 3, 2), (.aload_n 0, 1, 0, 0, 0), (.getfield 28, 3, 0, 4, 0), (.iload_n 1, 1, 0, 0, 0), (.iload_n 2, 1, 0, 0, 0), (.ishr, 1, 0, 0, 0), (.sipush 255, 3, 0, 0, 0), (.iand, 1, 0, 0, 0), (.iastore, 1, 0, 0, 0), (.aload_n 0, 1, 0, 0, 0), (.dup, 1, 0, 0, 0), (.getfield 28, 3, 0, 4, 0), (.iconst 1, 1, 0, 0, 0), (.iadd, 1, 0, 0, 0), (.putfield 28, 3, 0, 4, 0), (.iinc 2 (-8), 3, 0, 0, 0), (.goto (-43), 3, 3, 0, 0)] K3)))))
noncomputable def n_50_3 (c : qV) : qF := lp (f_50_3 c) qLF
theorem s_50_3 {G : qG} {d : Nat} {c : qV} (hc : qvok G d c) : Snd G (d + 1) 50 3 (n_50_3 c) := lp_snd (fun K3 h3 => (sF_snd qk_50 hy_50 hc (bF_snd (pc := 4) qk_50 (by decide +kernel)
 (s_50_49 hc)
 (sF_snd qk_50 hy_50 hc (bF_snd (pc := 14) qk_50 (by decide +kernel)
 (s_50_49 hc)
 (sF_snd qk_50 hy_50 hc h3 _ 17 (by decide +kernel))) _ 7 (by decide +kernel))) _ 3 (by decide +kernel))) _
noncomputable def n_50_0 (c : qV) : qF := (sF c [(.bipush 24, 2, 0, 0, 0), (.istore_n 2, 1, 0, 0, 0)] (n_50_3 c))
theorem s_50_0 {G : qG} {d : Nat} {c : qV} (hc : qvok G d c) : Snd G (d + 1) 50 0 (n_50_0 c) := (sF_snd qk_50 hy_50 hc (s_50_3 hc) _ 0 (by decide +kernel))
/-! CheesePost.rollsOnPaper(IIII)Z -/
theorem hy_51 : (qnm 51).cls = qocn (qoc 51) := by decide +kernel
noncomputable def n_51_35 (c : qV) : qF := (sF c [(.iconst 0, 1, 0, 0, 0)] rZ)
theorem s_51_35 {G : qG} {d : Nat} {c : qV} (hc : qvok G d c) : Snd G (d + 1) 51 35 (n_51_35 c) := (sF_snd qk_51 hy_51 hc (rZ_snd (pc := 36) qk_51 (by decide +kernel) (by decide +kernel)) _ 35 (by decide +kernel))
noncomputable def n_51_0 (c : qV) : qF := (sF c [(.iload_n 1, 1, 0, 0, 0), (.invokestatic 116, 3, 58, 1, 0)] (bF (.ifCond .eq 31, 3, 35, 0, 0)
 (n_51_35 c)
 (sF c [(.iload_n 2, 1, 0, 0, 0), (.iconst 0, 1, 0, 0, 0), (.iconst 3, 1, 0, 0, 0), (.invokestatic 120, 3, 57, 3, 0)] (bF (.ifCond .eq 22, 3, 35, 0, 0)
 (n_51_35 c)
 (sF c [(.iload_n 3, 1, 0, 0, 0), (.iconst 0, 1, 0, 0, 0), (.bipush 99, 2, 0, 0, 0), (.invokestatic 120, 3, 57, 3, 0)] (bF (.ifCond .eq 12, 3, 35, 0, 0)
 (n_51_35 c)
 (sF c [(.aload_n 0, 1, 0, 0, 0), (.iload 4, 2, 0, 0, 0), (.invokevirtual 189, 3, 56, 1, 0)] (bF (.ifCond .ne 5, 3, 37, 0, 0)
 (sF c [(.aload_n 0, 1, 0, 0, 0), (.getfield 52, 3, 0, 10, 2), (.invokevirtual 235, 3, 255, 0, 5), (.aload_n 0, 1, 0, 0, 0), (.getfield 61, 3, 0, 11, 2), (.invokevirtual 419, 3, 289, 0, 8), (.aload_n 0, 1, 0, 0, 0), (.getfield 61, 3, 0, 11, 2), (.iload_n 1, 1, 0, 0, 0), (.iload_n 2, 1, 0, 0, 0), (.iload_n 3, 1, 0, 0, 0), (.iload 4, 2, 0, 0, 0), (.invokevirtual 434, 3, 290, 4, 8), (.aload_n 0, 1, 0, 0, 0), (.getfield 61, 3, 0, 11, 2), (.invokevirtual 438, 3, 293, 0, 8), (.iconst 1, 1, 0, 0, 0)] rZ)
 (n_51_35 c)))))))))
theorem s_51_0 {G : qG} {d : Nat} {c : qV} (hc : qvok G d c) : Snd G (d + 1) 51 0 (n_51_0 c) := (sF_snd qk_51 hy_51 hc (bF_snd (pc := 4) qk_51 (by decide +kernel)
 (s_51_35 hc)
 (sF_snd qk_51 hy_51 hc (bF_snd (pc := 13) qk_51 (by decide +kernel)
 (s_51_35 hc)
 (sF_snd qk_51 hy_51 hc (bF_snd (pc := 23) qk_51 (by decide +kernel)
 (s_51_35 hc)
 (sF_snd qk_51 hy_51 hc (bF_snd (pc := 32) qk_51 (by decide +kernel)
 (sF_snd qk_51 hy_51 hc (rZ_snd (pc := 71) qk_51 (by decide +kernel) (by decide +kernel)) _ 37 (by decide +kernel))
 (s_51_35 hc)) _ 26 (by decide +kernel))) _ 16 (by decide +kernel))) _ 7 (by decide +kernel))) _ 0 (by decide +kernel))
/-! CheesePost.rollByDraws()V -/
theorem hy_52 : (qnm 52).cls = qocn (qoc 52) := by decide +kernel
noncomputable def n_52_165 (c : qV) : qF := rV
theorem s_52_165 {G : qG} {d : Nat} {c : qV} (hc : qvok G d c) : Snd G (d + 1) 52 165 (n_52_165 c) := (rV_snd (pc := 165) qk_52 (by decide +kernel) (by decide +kernel))
noncomputable def n_52_156 (c : qV) (K69 : qF) : qF := (sF c [(.invokevirtual 453, 3, 295, 1, 8), (.iinc 5 1, 3, 0, 0, 0), (.goto (-93), 3, 69, 0, 0)] K69)
theorem s_52_156 {G : qG} {d : Nat} {c : qV} (hc : qvok G d c) {K69 : qF} (h69 : Snd G (d + 1) 52 69 K69) : Snd G (d + 1) 52 156 (n_52_156 c K69) := (sF_snd qk_52 hy_52 hc h69 _ 156 (by decide +kernel))
noncomputable def n_52_149 (c : qV) (K69 : qF) : qF := (sF c [(.aload_n 0, 1, 0, 0, 0), (.getfield 61, 3, 0, 11, 2), (.getfield 450, 3, 8, 9, 0)] (n_52_156 c K69))
theorem s_52_149 {G : qG} {d : Nat} {c : qV} (hc : qvok G d c) {K69 : qF} (h69 : Snd G (d + 1) 52 69 K69) : Snd G (d + 1) 52 149 (n_52_149 c K69) := (sF_snd qk_52 hy_52 hc (s_52_156 hc h69) _ 149 (by decide +kernel))
noncomputable def n_52_110 (c : qV) (K69 : qF) : qF := (sF c [(.istore 6, 2, 0, 0, 0), (.aload_n 0, 1, 0, 0, 0), (.getfield 61, 3, 0, 11, 2), (.invokevirtual 444, 3, 294, 0, 8), (.aload_n 0, 1, 0, 0, 0), (.getfield 61, 3, 0, 11, 2), (.iload 6, 2, 0, 0, 0)] (bF (.ifCond .eq 24, 3, 149, 0, 0)
 (n_52_149 c K69)
 (sF c [(.aload_n 0, 1, 0, 0, 0), (.getfield 61, 3, 0, 11, 2), (.getfield 447, 3, 8, 10, 0), (.iconst (-1), 1, 0, 0, 0)] (bF (.if_icmp .eq 13, 3, 149, 0, 0)
 (n_52_149 c K69)
 (sF c [(.aload_n 0, 1, 0, 0, 0), (.getfield 61, 3, 0, 11, 2), (.getfield 447, 3, 8, 10, 0), (.goto 10, 3, 156, 0, 0)] (n_52_156 c K69))))))
theorem s_52_110 {G : qG} {d : Nat} {c : qV} (hc : qvok G d c) {K69 : qF} (h69 : Snd G (d + 1) 52 69 K69) : Snd G (d + 1) 52 110 (n_52_110 c K69) := (sF_snd qk_52 hy_52 hc (bF_snd (pc := 125) qk_52 (by decide +kernel)
 (s_52_149 hc h69)
 (sF_snd qk_52 hy_52 hc (bF_snd (pc := 136) qk_52 (by decide +kernel)
 (s_52_149 hc h69)
 (sF_snd qk_52 hy_52 hc (s_52_156 hc h69) _ 139 (by decide +kernel))) _ 128 (by decide +kernel))) _ 110 (by decide +kernel))
noncomputable def f_52_69 (c : qV) (K69 : qF) : qF := (sF c [(.iload 5, 2, 0, 0, 0), (.bipush 60, 2, 0, 0, 0)] (bF (.if_icmp .ge 92, 3, 165, 0, 0)
 (n_52_165 c)
 (sF c [(.aload_n 0, 1, 0, 0, 0), (.getfield 61, 3, 0, 11, 2), (.getfield 262, 3, 8, 8, 0), (.iconst (-1), 1, 0, 0, 0)] (bF (.if_icmp .ne 81, 3, 165, 0, 0)
 (n_52_165 c)
 (sF c [(.aload_n 0, 1, 0, 0, 0), (.bipush 10, 2, 0, 0, 0), (.invokevirtual 441, 3, 53, 1, 0), (.aload_n 0, 1, 0, 0, 0), (.getfield 12, 3, 0, 0, 2), (.getfield 198, 3, 1, 6, 2), (.iconst 3, 1, 0, 0, 0), (.iaload, 1, 0, 0, 0)] (bF (.if_icmp .ge 7, 3, 109, 0, 0)
 (sF c [(.iconst 0, 1, 0, 0, 0)] (n_52_110 c K69))
 (sF c [(.iconst 1, 1, 0, 0, 0), (.goto 4, 3, 110, 0, 0)] (n_52_110 c K69))))))))
noncomputable def n_52_69 (c : qV) : qF := lp (f_52_69 c) qLF
theorem s_52_69 {G : qG} {d : Nat} {c : qV} (hc : qvok G d c) : Snd G (d + 1) 52 69 (n_52_69 c) := lp_snd (fun K69 h69 => (sF_snd qk_52 hy_52 hc (bF_snd (pc := 73) qk_52 (by decide +kernel)
 (s_52_165 hc)
 (sF_snd qk_52 hy_52 hc (bF_snd (pc := 84) qk_52 (by decide +kernel)
 (s_52_165 hc)
 (sF_snd qk_52 hy_52 hc (bF_snd (pc := 102) qk_52 (by decide +kernel)
 (sF_snd qk_52 hy_52 hc (s_52_110 hc h69) _ 109 (by decide +kernel))
 (sF_snd qk_52 hy_52 hc (s_52_110 hc h69) _ 105 (by decide +kernel))) _ 87 (by decide +kernel))) _ 76 (by decide +kernel))) _ 69 (by decide +kernel))) _
noncomputable def n_52_0 (c : qV) : qF := (sF c [(.aload_n 0, 1, 0, 0, 0), (.aload_n 0, 1, 0, 0, 0), (.getfield 12, 3, 0, 0, 2), (.getfield 159, 3, 1, 10, 0), (.invokevirtual 441, 3, 53, 1, 0), (.istore_n 1, 1, 0, 0, 0), (.aload_n 0, 1, 0, 0, 0), (.aload_n 0, 1, 0, 0, 0), (.getfield 12, 3, 0, 0, 2), (.getfield 128, 3, 1, 0, 2), (.getfield 153, 3, 6, 10, 0), (.invokevirtual 441, 3, 53, 1, 0), (.istore_n 2, 1, 0, 0, 0), (.aload_n 0, 1, 0, 0, 0), (.iconst 4, 1, 0, 0, 0), (.invokevirtual 441, 3, 53, 1, 0), (.istore_n 3, 1, 0, 0, 0), (.aload_n 0, 1, 0, 0, 0), (.bipush 9, 2, 0, 0, 0), (.invokevirtual 441, 3, 53, 1, 0), (.iconst 1, 1, 0, 0, 0), (.iadd, 1, 0, 0, 0), (.istore 4, 2, 0, 0, 0), (.aload_n 0, 1, 0, 0, 0), (.getfield 61, 3, 0, 11, 2), (.aload_n 0, 1, 0, 0, 0), (.getfield 12, 3, 0, 0, 2), (.getfield 128, 3, 1, 0, 2), (.getfield 156, 3, 6, 8, 2), (.iload_n 2, 1, 0, 0, 0), (.iaload, 1, 0, 0, 0), (.iload_n 3, 1, 0, 0, 0), (.iload 4, 2, 0, 0, 0), (.iload_n 1, 1, 0, 0, 0), (.invokevirtual 434, 3, 290, 4, 8), (.iconst 0, 1, 0, 0, 0), (.istore 5, 2, 0, 0, 0)] (n_52_69 c))
theorem s_52_0 {G : qG} {d : Nat} {c : qV} (hc : qvok G d c) : Snd G (d + 1) 52 0 (n_52_0 c) := (sF_snd qk_52 hy_52 hc (s_52_69 hc) _ 0 (by decide +kernel))
/-! CheesePost.drawOf(I)I -/
theorem hy_53 : (qnm 53).cls = qocn (qoc 53) := by decide +kernel
noncomputable def n_53_36 (c : qV) : qF := rI
theorem s_53_36 {G : qG} {d : Nat} {c : qV} (hc : qvok G d c) : Snd G (d + 1) 53 36 (n_53_36 c) := (rI_snd (pc := 36) qk_53 (by decide +kernel) (by decide +kernel))
noncomputable def n_53_0 (c : qV) : qF := (sF c [(.aload_n 0, 1, 0, 0, 0), (.aload_n 0, 1, 0, 0, 0), (.getfield 107, 3, 0, 18, 0), (.i2l, 1, 0, 0, 0), (.ldc2_w 456, 3, 0, 0, 1103), (.lmul, 1, 0, 0, 0), (.ldc2_w 458, 3, 0, 0, 12345), (.ladd, 1, 0, 0, 0), (.ldc2_w 460, 3, 0, 0, 1000003), (.lrem, 1, 0, 0, 0), (.l2i, 1, 0, 0, 0), (.putfield 107, 3, 0, 18, 0), (.iload_n 1, 1, 0, 0, 0)] (bF (.ifCond .le 12, 3, 35, 0, 0)
 (sF c [(.iconst 0, 1, 0, 0, 0)] (n_53_36 c))
 (sF c [(.aload_n 0, 1, 0, 0, 0), (.getfield 107, 3, 0, 18, 0), (.iload_n 1, 1, 0, 0, 0), (.irem, 1, 0, 0, 0), (.goto 4, 3, 36, 0, 0)] (n_53_36 c))))
theorem s_53_0 {G : qG} {d : Nat} {c : qV} (hc : qvok G d c) : Snd G (d + 1) 53 0 (n_53_0 c) := (sF_snd qk_53 hy_53 hc (bF_snd (pc := 23) qk_53 (by decide +kernel)
 (sF_snd qk_53 hy_53 hc (s_53_36 hc) _ 35 (by decide +kernel))
 (sF_snd qk_53 hy_53 hc (s_53_36 hc) _ 26 (by decide +kernel))) _ 0 (by decide +kernel))
/-! CheesePost.isHouse(I)Z -/
theorem hy_54 : (qnm 54).cls = qocn (qoc 54) := by decide +kernel
noncomputable def n_54_0 (c : qV) : qF := (sF c [(.iload_n 1, 1, 0, 0, 0), (.iconst 0, 1, 0, 0, 0), (.aload_n 0, 1, 0, 0, 0), (.getfield 12, 3, 0, 0, 2), (.getfield 128, 3, 1, 0, 2), (.getfield 146, 3, 6, 9, 0), (.iconst 1, 1, 0, 0, 0), (.isub, 1, 0, 0, 0), (.invokestatic 120, 3, 57, 3, 0)] rZ)
theorem s_54_0 {G : qG} {d : Nat} {c : qV} (hc : qvok G d c) : Snd G (d + 1) 54 0 (n_54_0 c) := (sF_snd qk_54 hy_54 hc (rZ_snd (pc := 17) qk_54 (by decide +kernel) (by decide +kernel)) _ 0 (by decide +kernel))
/-! CheesePost.isDairy(I)Z -/
theorem hy_55 : (qnm 55).cls = qocn (qoc 55) := by decide +kernel
noncomputable def n_55_0 (c : qV) : qF := (sF c [(.iload_n 1, 1, 0, 0, 0), (.iconst 0, 1, 0, 0, 0), (.aload_n 0, 1, 0, 0, 0), (.getfield 12, 3, 0, 0, 2), (.getfield 128, 3, 1, 0, 2), (.getfield 153, 3, 6, 10, 0), (.iconst 1, 1, 0, 0, 0), (.isub, 1, 0, 0, 0), (.invokestatic 120, 3, 57, 3, 0)] rZ)
theorem s_55_0 {G : qG} {d : Nat} {c : qV} (hc : qvok G d c) : Snd G (d + 1) 55 0 (n_55_0 c) := (sF_snd qk_55 hy_55 hc (rZ_snd (pc := 17) qk_55 (by decide +kernel) (by decide +kernel)) _ 0 (by decide +kernel))
/-! CheesePost.isWheel(I)Z -/
theorem hy_56 : (qnm 56).cls = qocn (qoc 56) := by decide +kernel
noncomputable def n_56_0 (c : qV) : qF := (sF c [(.iload_n 1, 1, 0, 0, 0), (.iconst 0, 1, 0, 0, 0), (.aload_n 0, 1, 0, 0, 0), (.getfield 12, 3, 0, 0, 2), (.getfield 159, 3, 1, 10, 0), (.iconst 1, 1, 0, 0, 0), (.isub, 1, 0, 0, 0), (.invokestatic 120, 3, 57, 3, 0)] rZ)
theorem s_56_0 {G : qG} {d : Nat} {c : qV} (hc : qvok G d c) : Snd G (d + 1) 56 0 (n_56_0 c) := (sF_snd qk_56 hy_56 hc (rZ_snd (pc := 14) qk_56 (by decide +kernel) (by decide +kernel)) _ 0 (by decide +kernel))
/-! CheesePost.within(III)Z -/
theorem hy_57 : (qnm 57).cls = qocn (qoc 57) := by decide +kernel
noncomputable def n_57_15 (c : qV) : qF := rZ
theorem s_57_15 {G : qG} {d : Nat} {c : qV} (hc : qvok G d c) : Snd G (d + 1) 57 15 (n_57_15 c) := (rZ_snd (pc := 15) qk_57 (by decide +kernel) (by decide +kernel))
noncomputable def n_57_14 (c : qV) : qF := (sF c [(.iconst 0, 1, 0, 0, 0)] (n_57_15 c))
theorem s_57_14 {G : qG} {d : Nat} {c : qV} (hc : qvok G d c) : Snd G (d + 1) 57 14 (n_57_14 c) := (sF_snd qk_57 hy_57 hc (s_57_15 hc) _ 14 (by decide +kernel))
noncomputable def n_57_0 (c : qV) : qF := (sF c [(.iload_n 0, 1, 0, 0, 0), (.iload_n 1, 1, 0, 0, 0)] (bF (.if_icmp .lt 12, 3, 14, 0, 0)
 (n_57_14 c)
 (sF c [(.iload_n 0, 1, 0, 0, 0), (.iload_n 2, 1, 0, 0, 0)] (bF (.if_icmp .gt 7, 3, 14, 0, 0)
 (n_57_14 c)
 (sF c [(.iconst 1, 1, 0, 0, 0), (.goto 4, 3, 15, 0, 0)] (n_57_15 c))))))
theorem s_57_0 {G : qG} {d : Nat} {c : qV} (hc : qvok G d c) : Snd G (d + 1) 57 0 (n_57_0 c) := (sF_snd qk_57 hy_57 hc (bF_snd (pc := 2) qk_57 (by decide +kernel)
 (s_57_14 hc)
 (sF_snd qk_57 hy_57 hc (bF_snd (pc := 7) qk_57 (by decide +kernel)
 (s_57_14 hc)
 (sF_snd qk_57 hy_57 hc (s_57_15 hc) _ 10 (by decide +kernel))) _ 5 (by decide +kernel))) _ 0 (by decide +kernel))
/-! CheesePost.isCell(I)Z -/
theorem hy_58 : (qnm 58).cls = qocn (qoc 58) := by decide +kernel
noncomputable def n_58_0 (c : qV) : qF := (sF c [(.iload_n 0, 1, 0, 0, 0), (.iconst 0, 1, 0, 0, 0), (.bipush 79, 2, 0, 0, 0), (.invokestatic 120, 3, 57, 3, 0)] rZ)
theorem s_58_0 {G : qG} {d : Nat} {c : qV} (hc : qvok G d c) : Snd G (d + 1) 58 0 (n_58_0 c) := (sF_snd qk_58 hy_58 hc (rZ_snd (pc := 7) qk_58 (by decide +kernel) (by decide +kernel)) _ 0 (by decide +kernel))
/-! CheesePost.isEnd(I)Z -/
theorem hy_59 : (qnm 59).cls = qocn (qoc 59) := by decide +kernel
noncomputable def n_59_23 (c : qV) : qF := rZ
theorem s_59_23 {G : qG} {d : Nat} {c : qV} (hc : qvok G d c) : Snd G (d + 1) 59 23 (n_59_23 c) := (rZ_snd (pc := 23) qk_59 (by decide +kernel) (by decide +kernel))
noncomputable def n_59_18 (c : qV) : qF := (sF c [(.iconst 1, 1, 0, 0, 0), (.goto 4, 3, 23, 0, 0)] (n_59_23 c))
theorem s_59_18 {G : qG} {d : Nat} {c : qV} (hc : qvok G d c) : Snd G (d + 1) 59 18 (n_59_18 c) := (sF_snd qk_59 hy_59 hc (s_59_23 hc) _ 18 (by decide +kernel))
noncomputable def n_59_0 (c : qV) : qF := (sF c [(.iload_n 0, 1, 0, 0, 0), (.invokestatic 116, 3, 58, 1, 0)] (bF (.ifCond .ne 14, 3, 18, 0, 0)
 (n_59_18 c)
 (sF c [(.iload_n 0, 1, 0, 0, 0), (.bipush 100, 2, 0, 0, 0), (.bipush 107, 2, 0, 0, 0), (.invokestatic 120, 3, 57, 3, 0)] (bF (.ifCond .eq 7, 3, 22, 0, 0)
 (sF c [(.iconst 0, 1, 0, 0, 0)] (n_59_23 c))
 (n_59_18 c)))))
theorem s_59_0 {G : qG} {d : Nat} {c : qV} (hc : qvok G d c) : Snd G (d + 1) 59 0 (n_59_0 c) := (sF_snd qk_59 hy_59 hc (bF_snd (pc := 4) qk_59 (by decide +kernel)
 (s_59_18 hc)
 (sF_snd qk_59 hy_59 hc (bF_snd (pc := 15) qk_59 (by decide +kernel)
 (sF_snd qk_59 hy_59 hc (s_59_23 hc) _ 22 (by decide +kernel))
 (s_59_18 hc)) _ 7 (by decide +kernel))) _ 0 (by decide +kernel))
/-! CheesePost.isRind(I)Z -/
theorem hy_60 : (qnm 60).cls = qocn (qoc 60) := by decide +kernel
noncomputable def n_60_0 (c : qV) : qF := (sF c [(.iload_n 0, 1, 0, 0, 0), (.iconst 1, 1, 0, 0, 0), (.iconst 5, 1, 0, 0, 0), (.invokestatic 120, 3, 57, 3, 0)] rZ)
theorem s_60_0 {G : qG} {d : Nat} {c : qV} (hc : qvok G d c) : Snd G (d + 1) 60 0 (n_60_0 c) := (sF_snd qk_60 hy_60 hc (rZ_snd (pc := 6) qk_60 (by decide +kernel) (by decide +kernel)) _ 0 (by decide +kernel))
/-! CheesePost.isOnRind(I)Z -/
theorem hy_61 : (qnm 61).cls = qocn (qoc 61) := by decide +kernel
noncomputable def n_61_0 (c : qV) : qF := (sF c [(.iload_n 0, 1, 0, 0, 0), (.iconst 0, 1, 0, 0, 0), (.bipush 96, 2, 0, 0, 0), (.invokestatic 120, 3, 57, 3, 0)] rZ)
theorem s_61_0 {G : qG} {d : Nat} {c : qV} (hc : qvok G d c) : Snd G (d + 1) 61 0 (n_61_0 c) := (sF_snd qk_61 hy_61 hc (rZ_snd (pc := 7) qk_61 (by decide +kernel) (by decide +kernel)) _ 0 (by decide +kernel))
/-! CheesePost.wheelOf(I)I -/
theorem hy_62 : (qnm 62).cls = qocn (qoc 62) := by decide +kernel
noncomputable def n_62_0 (c : qV) : qF := (sF c [(.iload_n 0, 1, 0, 0, 0), (.sipush 160, 3, 0, 0, 0), (.idiv, 1, 0, 0, 0)] rI)
theorem s_62_0 {G : qG} {d : Nat} {c : qV} (hc : qvok G d c) : Snd G (d + 1) 62 0 (n_62_0 c) := (sF_snd qk_62 hy_62 hc (rI_snd (pc := 5) qk_62 (by decide +kernel) (by decide +kernel)) _ 0 (by decide +kernel))
/-! CheesePost.dairyOf(I)I -/
theorem hy_63 : (qnm 63).cls = qocn (qoc 63) := by decide +kernel
noncomputable def n_63_0 (c : qV) : qF := (sF c [(.iload_n 0, 1, 0, 0, 0), (.bipush 40, 2, 0, 0, 0), (.idiv, 1, 0, 0, 0), (.iconst 4, 1, 0, 0, 0), (.irem, 1, 0, 0, 0)] rI)
theorem s_63_0 {G : qG} {d : Nat} {c : qV} (hc : qvok G d c) : Snd G (d + 1) 63 0 (n_63_0 c) := (sF_snd qk_63 hy_63 hc (rI_snd (pc := 6) qk_63 (by decide +kernel) (by decide +kernel)) _ 0 (by decide +kernel))
/-! CheesePost.directionOf(I)I -/
theorem hy_64 : (qnm 64).cls = qocn (qoc 64) := by decide +kernel
noncomputable def n_64_0 (c : qV) : qF := (sF c [(.iload_n 0, 1, 0, 0, 0), (.bipush 10, 2, 0, 0, 0), (.idiv, 1, 0, 0, 0), (.iconst 4, 1, 0, 0, 0), (.irem, 1, 0, 0, 0)] rI)
theorem s_64_0 {G : qG} {d : Nat} {c : qV} (hc : qvok G d c) : Snd G (d + 1) 64 0 (n_64_0 c) := (sF_snd qk_64 hy_64 hc (rI_snd (pc := 6) qk_64 (by decide +kernel) (by decide +kernel)) _ 0 (by decide +kernel))
/-! CheesePost.speedOf(I)I -/
theorem hy_65 : (qnm 65).cls = qocn (qoc 65) := by decide +kernel
noncomputable def n_65_0 (c : qV) : qF := (sF c [(.iload_n 0, 1, 0, 0, 0), (.bipush 10, 2, 0, 0, 0), (.irem, 1, 0, 0, 0)] rI)
theorem s_65_0 {G : qG} {d : Nat} {c : qV} (hc : qvok G d c) : Snd G (d + 1) 65 0 (n_65_0 c) := (sF_snd qk_65 hy_65 hc (rI_snd (pc := 4) qk_65 (by decide +kernel) (by decide +kernel)) _ 0 (by decide +kernel))
/-! CheesePost.beside(II)I -/
theorem hy_66 : (qnm 66).cls = qocn (qoc 66) := by decide +kernel
noncomputable def n_66_92 (c : qV) : qF := rI
theorem s_66_92 {G : qG} {d : Nat} {c : qV} (hc : qvok G d c) : Snd G (d + 1) 66 92 (n_66_92 c) := (rI_snd (pc := 92) qk_66 (by decide +kernel) (by decide +kernel))
noncomputable def n_66_48 (c : qV) : qF := rI
theorem s_66_48 {G : qG} {d : Nat} {c : qV} (hc : qvok G d c) : Snd G (d + 1) 66 48 (n_66_48 c) := (rI_snd (pc := 48) qk_66 (by decide +kernel) (by decide +kernel))
noncomputable def n_66_62 (c : qV) : qF := rI
theorem s_66_62 {G : qG} {d : Nat} {c : qV} (hc : qvok G d c) : Snd G (d + 1) 66 62 (n_66_62 c) := (rI_snd (pc := 62) qk_66 (by decide +kernel) (by decide +kernel))
noncomputable def n_66_80 (c : qV) : qF := rI
theorem s_66_80 {G : qG} {d : Nat} {c : qV} (hc : qvok G d c) : Snd G (d + 1) 66 80 (n_66_80 c) := (rI_snd (pc := 80) qk_66 (by decide +kernel) (by decide +kernel))
noncomputable def n_66_0 (c : qV) : qF := (sF c [(.iload_n 0, 1, 0, 0, 0), (.bipush 8, 2, 0, 0, 0), (.irem, 1, 0, 0, 0), (.istore_n 2, 1, 0, 0, 0), (.iload_n 0, 1, 0, 0, 0), (.bipush 8, 2, 0, 0, 0), (.idiv, 1, 0, 0, 0), (.istore_n 3, 1, 0, 0, 0), (.iload_n 1, 1, 0, 0, 0)] (swF 0 [(sF c [(.iload_n 3, 1, 0, 0, 0)] (bF (.ifCond .le 10, 3, 47, 0, 0)
 (sF c [(.iconst (-1), 1, 0, 0, 0)] (n_66_48 c))
 (sF c [(.iload_n 0, 1, 0, 0, 0), (.bipush 8, 2, 0, 0, 0), (.isub, 1, 0, 0, 0), (.goto 4, 3, 48, 0, 0)] (n_66_48 c)))),
 (sF c [(.iload_n 2, 1, 0, 0, 0), (.bipush 7, 2, 0, 0, 0)] (bF (.if_icmp .ge 9, 3, 61, 0, 0)
 (sF c [(.iconst (-1), 1, 0, 0, 0)] (n_66_62 c))
 (sF c [(.iload_n 0, 1, 0, 0, 0), (.iconst 1, 1, 0, 0, 0), (.iadd, 1, 0, 0, 0), (.goto 4, 3, 62, 0, 0)] (n_66_62 c)))),
 (sF c [(.iload_n 3, 1, 0, 0, 0), (.bipush 9, 2, 0, 0, 0)] (bF (.if_icmp .ge 10, 3, 76, 0, 0)
 (sF c [(.bipush 100, 2, 0, 0, 0), (.iload_n 2, 1, 0, 0, 0), (.iadd, 1, 0, 0, 0)] (n_66_80 c))
 (sF c [(.iload_n 0, 1, 0, 0, 0), (.bipush 8, 2, 0, 0, 0), (.iadd, 1, 0, 0, 0), (.goto 7, 3, 80, 0, 0)] (n_66_80 c))))] (sF c [(.iload_n 2, 1, 0, 0, 0)] (bF (.ifCond .le 9, 3, 91, 0, 0)
 (sF c [(.iconst (-1), 1, 0, 0, 0)] (n_66_92 c))
 (sF c [(.iload_n 0, 1, 0, 0, 0), (.iconst 1, 1, 0, 0, 0), (.isub, 1, 0, 0, 0), (.goto 4, 3, 92, 0, 0)] (n_66_92 c))))))
theorem s_66_0 {G : qG} {d : Nat} {c : qV} (hc : qvok G d c) : Snd G (d + 1) 66 0 (n_66_0 c) := (sF_snd qk_66 hy_66 hc (swF_snd (pc := 11) (lo := 0) (df := 81) qk_66 (by decide +kernel) (Snds_c (t := 36) (sF_snd qk_66 hy_66 hc (bF_snd (pc := 37) qk_66 (by decide +kernel)
 (sF_snd qk_66 hy_66 hc (s_66_48 hc) _ 47 (by decide +kernel))
 (sF_snd qk_66 hy_66 hc (s_66_48 hc) _ 40 (by decide +kernel))) _ 36 (by decide +kernel)) (Snds_c (t := 49) (sF_snd qk_66 hy_66 hc (bF_snd (pc := 52) qk_66 (by decide +kernel)
 (sF_snd qk_66 hy_66 hc (s_66_62 hc) _ 61 (by decide +kernel))
 (sF_snd qk_66 hy_66 hc (s_66_62 hc) _ 55 (by decide +kernel))) _ 49 (by decide +kernel)) (Snds_c (t := 63) (sF_snd qk_66 hy_66 hc (bF_snd (pc := 66) qk_66 (by decide +kernel)
 (sF_snd qk_66 hy_66 hc (s_66_80 hc) _ 76 (by decide +kernel))
 (sF_snd qk_66 hy_66 hc (s_66_80 hc) _ 69 (by decide +kernel))) _ 63 (by decide +kernel)) Snds_n))) (sF_snd qk_66 hy_66 hc (bF_snd (pc := 82) qk_66 (by decide +kernel)
 (sF_snd qk_66 hy_66 hc (s_66_92 hc) _ 91 (by decide +kernel))
 (sF_snd qk_66 hy_66 hc (s_66_92 hc) _ 85 (by decide +kernel))) _ 81 (by decide +kernel))) _ 0 (by decide +kernel))
/-! CheesePost.agreeWithout([II)Z -/
theorem hy_67 : (qnm 67).cls = qocn (qoc 67) := by decide +kernel
noncomputable def n_67_77 (c : qV) : qF := rZ
theorem s_67_77 {G : qG} {d : Nat} {c : qV} (hc : qvok G d c) : Snd G (d + 1) 67 77 (n_67_77 c) := (rZ_snd (pc := 77) qk_67 (by decide +kernel) (by decide +kernel))
noncomputable def n_67_44 (c : qV) : qF := (sF c [(.istore 5, 2, 0, 0, 0), (.iload 5, 2, 0, 0, 0), (.iload_n 2, 1, 0, 0, 0), (.aload_n 0, 1, 0, 0, 0), (.iload_n 2, 1, 0, 0, 0), (.iaload, 1, 0, 0, 0), (.iload_n 3, 1, 0, 0, 0), (.aload_n 0, 1, 0, 0, 0), (.iload_n 3, 1, 0, 0, 0), (.iaload, 1, 0, 0, 0), (.iload 4, 2, 0, 0, 0), (.aload_n 0, 1, 0, 0, 0), (.iload 4, 2, 0, 0, 0), (.iaload, 1, 0, 0, 0), (.invokestatic 395, 3, 68, 7, 0), (.aload_n 0, 1, 0, 0, 0), (.iload 5, 2, 0, 0, 0), (.iaload, 1, 0, 0, 0)] (bF (.if_icmp .ne 7, 3, 76, 0, 0)
 (sF c [(.iconst 0, 1, 0, 0, 0)] (n_67_77 c))
 (sF c [(.iconst 1, 1, 0, 0, 0), (.goto 4, 3, 77, 0, 0)] (n_67_77 c))))
theorem s_67_44 {G : qG} {d : Nat} {c : qV} (hc : qvok G d c) : Snd G (d + 1) 67 44 (n_67_44 c) := (sF_snd qk_67 hy_67 hc (bF_snd (pc := 69) qk_67 (by decide +kernel)
 (sF_snd qk_67 hy_67 hc (s_67_77 hc) _ 76 (by decide +kernel))
 (sF_snd qk_67 hy_67 hc (s_67_77 hc) _ 72 (by decide +kernel))) _ 44 (by decide +kernel))
noncomputable def n_67_32 (c : qV) : qF := (sF c [(.istore 4, 2, 0, 0, 0), (.iload_n 1, 1, 0, 0, 0), (.iconst 4, 1, 0, 0, 0)] (bF (.if_icmp .gt 7, 3, 43, 0, 0)
 (sF c [(.iconst 4, 1, 0, 0, 0)] (n_67_44 c))
 (sF c [(.iconst 5, 1, 0, 0, 0), (.goto 4, 3, 44, 0, 0)] (n_67_44 c))))
theorem s_67_32 {G : qG} {d : Nat} {c : qV} (hc : qvok G d c) : Snd G (d + 1) 67 32 (n_67_32 c) := (sF_snd qk_67 hy_67 hc (bF_snd (pc := 36) qk_67 (by decide +kernel)
 (sF_snd qk_67 hy_67 hc (s_67_44 hc) _ 43 (by decide +kernel))
 (sF_snd qk_67 hy_67 hc (s_67_44 hc) _ 39 (by decide +kernel))) _ 32 (by decide +kernel))
noncomputable def n_67_21 (c : qV) : qF := (sF c [(.istore_n 3, 1, 0, 0, 0), (.iload_n 1, 1, 0, 0, 0), (.iconst 3, 1, 0, 0, 0)] (bF (.if_icmp .gt 7, 3, 31, 0, 0)
 (sF c [(.iconst 3, 1, 0, 0, 0)] (n_67_32 c))
 (sF c [(.iconst 4, 1, 0, 0, 0), (.goto 4, 3, 32, 0, 0)] (n_67_32 c))))
theorem s_67_21 {G : qG} {d : Nat} {c : qV} (hc : qvok G d c) : Snd G (d + 1) 67 21 (n_67_21 c) := (sF_snd qk_67 hy_67 hc (bF_snd (pc := 24) qk_67 (by decide +kernel)
 (sF_snd qk_67 hy_67 hc (s_67_32 hc) _ 31 (by decide +kernel))
 (sF_snd qk_67 hy_67 hc (s_67_32 hc) _ 27 (by decide +kernel))) _ 21 (by decide +kernel))
noncomputable def n_67_10 (c : qV) : qF := (sF c [(.istore_n 2, 1, 0, 0, 0), (.iload_n 1, 1, 0, 0, 0), (.iconst 2, 1, 0, 0, 0)] (bF (.if_icmp .gt 7, 3, 20, 0, 0)
 (sF c [(.iconst 2, 1, 0, 0, 0)] (n_67_21 c))
 (sF c [(.iconst 3, 1, 0, 0, 0), (.goto 4, 3, 21, 0, 0)] (n_67_21 c))))
theorem s_67_10 {G : qG} {d : Nat} {c : qV} (hc : qvok G d c) : Snd G (d + 1) 67 10 (n_67_10 c) := (sF_snd qk_67 hy_67 hc (bF_snd (pc := 13) qk_67 (by decide +kernel)
 (sF_snd qk_67 hy_67 hc (s_67_21 hc) _ 20 (by decide +kernel))
 (sF_snd qk_67 hy_67 hc (s_67_21 hc) _ 16 (by decide +kernel))) _ 10 (by decide +kernel))
noncomputable def n_67_0 (c : qV) : qF := (sF c [(.iload_n 1, 1, 0, 0, 0), (.iconst 1, 1, 0, 0, 0)] (bF (.if_icmp .ne 7, 3, 9, 0, 0)
 (sF c [(.iconst 1, 1, 0, 0, 0)] (n_67_10 c))
 (sF c [(.iconst 2, 1, 0, 0, 0), (.goto 4, 3, 10, 0, 0)] (n_67_10 c))))
theorem s_67_0 {G : qG} {d : Nat} {c : qV} (hc : qvok G d c) : Snd G (d + 1) 67 0 (n_67_0 c) := (sF_snd qk_67 hy_67 hc (bF_snd (pc := 2) qk_67 (by decide +kernel)
 (sF_snd qk_67 hy_67 hc (s_67_10 hc) _ 9 (by decide +kernel))
 (sF_snd qk_67 hy_67 hc (s_67_10 hc) _ 5 (by decide +kernel))) _ 0 (by decide +kernel))
/-! CheesePost.curveAt(IIIIIII)I -/
theorem hy_68 : (qnm 68).cls = qocn (qoc 68) := by decide +kernel
noncomputable def n_68_0 (c : qV) : qF := (sF c [(.iload_n 2, 1, 0, 0, 0), (.iload_n 0, 1, 0, 0, 0), (.iload_n 1, 1, 0, 0, 0), (.iload_n 3, 1, 0, 0, 0), (.iload 5, 2, 0, 0, 0), (.invokestatic 462, 3, 69, 4, 0), (.imul, 1, 0, 0, 0), (.iload 4, 2, 0, 0, 0), (.iload_n 0, 1, 0, 0, 0), (.iload_n 3, 1, 0, 0, 0), (.iload_n 1, 1, 0, 0, 0), (.iload 5, 2, 0, 0, 0), (.invokestatic 462, 3, 69, 4, 0), (.imul, 1, 0, 0, 0), (.iadd, 1, 0, 0, 0), (.iload 6, 2, 0, 0, 0), (.iload_n 0, 1, 0, 0, 0), (.iload 5, 2, 0, 0, 0), (.iload_n 1, 1, 0, 0, 0), (.iload_n 3, 1, 0, 0, 0), (.invokestatic 462, 3, 69, 4, 0), (.imul, 1, 0, 0, 0), (.iadd, 1, 0, 0, 0), (.istore 7, 2, 0, 0, 0), (.iload 7, 2, 0, 0, 0), (.bipush 97, 2, 0, 0, 0), (.irem, 1, 0, 0, 0)] rI)
theorem s_68_0 {G : qG} {d : Nat} {c : qV} (hc : qvok G d c) : Snd G (d + 1) 68 0 (n_68_0 c) := (sF_snd qk_68 hy_68 hc (rI_snd (pc := 41) qk_68 (by decide +kernel) (by decide +kernel)) _ 0 (by decide +kernel))
/-! CheesePost.weightAt(IIII)I -/
theorem hy_69 : (qnm 69).cls = qocn (qoc 69) := by decide +kernel
noncomputable def n_69_0 (c : qV) : qF := (sF c [(.iload_n 0, 1, 0, 0, 0), (.iload_n 2, 1, 0, 0, 0), (.isub, 1, 0, 0, 0), (.iload_n 0, 1, 0, 0, 0), (.iload_n 3, 1, 0, 0, 0), (.isub, 1, 0, 0, 0), (.imul, 1, 0, 0, 0), (.bipush 97, 2, 0, 0, 0), (.invokestatic 465, 3, 992, 2, 0), (.istore 4, 2, 0, 0, 0), (.iload_n 1, 1, 0, 0, 0), (.iload_n 2, 1, 0, 0, 0), (.isub, 1, 0, 0, 0), (.iload_n 1, 1, 0, 0, 0), (.iload_n 3, 1, 0, 0, 0), (.isub, 1, 0, 0, 0), (.imul, 1, 0, 0, 0), (.bipush 97, 2, 0, 0, 0), (.invokestatic 465, 3, 992, 2, 0), (.istore 5, 2, 0, 0, 0), (.iload 4, 2, 0, 0, 0), (.iload 5, 2, 0, 0, 0), (.invokestatic 470, 3, 70, 1, 0), (.imul, 1, 0, 0, 0), (.bipush 97, 2, 0, 0, 0), (.irem, 1, 0, 0, 0)] rI)
theorem s_69_0 {G : qG} {d : Nat} {c : qV} (hc : qvok G d c) : Snd G (d + 1) 69 0 (n_69_0 c) := (sF_snd qk_69 hy_69 hc (rI_snd (pc := 39) qk_69 (by decide +kernel) (by decide +kernel)) _ 0 (by decide +kernel))
/-! CheesePost.inverse(I)I -/
theorem hy_70 : (qnm 70).cls = qocn (qoc 70) := by decide +kernel
noncomputable def n_70_26 (c : qV) : qF := (sF c [(.iconst 0, 1, 0, 0, 0)] rI)
theorem s_70_26 {G : qG} {d : Nat} {c : qV} (hc : qvok G d c) : Snd G (d + 1) 70 26 (n_70_26 c) := (sF_snd qk_70 hy_70 hc (rI_snd (pc := 27) qk_70 (by decide +kernel) (by decide +kernel)) _ 26 (by decide +kernel))
noncomputable def f_70_2 (c : qV) (K2 : qF) : qF := (sF c [(.iload_n 1, 1, 0, 0, 0), (.bipush 97, 2, 0, 0, 0)] (bF (.if_icmp .ge 21, 3, 26, 0, 0)
 (n_70_26 c)
 (sF c [(.iload_n 0, 1, 0, 0, 0), (.iload_n 1, 1, 0, 0, 0), (.imul, 1, 0, 0, 0), (.bipush 97, 2, 0, 0, 0), (.irem, 1, 0, 0, 0), (.iconst 1, 1, 0, 0, 0)] (bF (.if_icmp .ne 5, 3, 20, 0, 0)
 (sF c [(.iinc 1 1, 3, 0, 0, 0), (.goto (-21), 3, 2, 0, 0)] K2)
 (sF c [(.iload_n 1, 1, 0, 0, 0)] rI)))))
noncomputable def n_70_2 (c : qV) : qF := lp (f_70_2 c) qLF
theorem s_70_2 {G : qG} {d : Nat} {c : qV} (hc : qvok G d c) : Snd G (d + 1) 70 2 (n_70_2 c) := lp_snd (fun K2 h2 => (sF_snd qk_70 hy_70 hc (bF_snd (pc := 5) qk_70 (by decide +kernel)
 (s_70_26 hc)
 (sF_snd qk_70 hy_70 hc (bF_snd (pc := 15) qk_70 (by decide +kernel)
 (sF_snd qk_70 hy_70 hc h2 _ 20 (by decide +kernel))
 (sF_snd qk_70 hy_70 hc (rI_snd (pc := 19) qk_70 (by decide +kernel) (by decide +kernel)) _ 18 (by decide +kernel))) _ 8 (by decide +kernel))) _ 2 (by decide +kernel))) _
noncomputable def n_70_0 (c : qV) : qF := (sF c [(.iconst 1, 1, 0, 0, 0), (.istore_n 1, 1, 0, 0, 0)] (n_70_2 c))
theorem s_70_0 {G : qG} {d : Nat} {c : qV} (hc : qvok G d c) : Snd G (d + 1) 70 0 (n_70_0 c) := (sF_snd qk_70 hy_70 hc (s_70_2 hc) _ 0 (by decide +kernel))
/-! CheesePostModel.lies(III)Z -/
theorem hy_71 : (qnm 71).cls = qocn (qoc 71) := by decide +kernel
noncomputable def n_71_15 (c : qV) : qF := rZ
theorem s_71_15 {G : qG} {d : Nat} {c : qV} (hc : qvok G d c) : Snd G (d + 1) 71 15 (n_71_15 c) := (rZ_snd (pc := 15) qk_71 (by decide +kernel) (by decide +kernel))
noncomputable def n_71_14 (c : qV) : qF := (sF c [(.iconst 0, 1, 0, 0, 0)] (n_71_15 c))
theorem s_71_14 {G : qG} {d : Nat} {c : qV} (hc : qvok G d c) : Snd G (d + 1) 71 14 (n_71_14 c) := (sF_snd qk_71 hy_71 hc (s_71_15 hc) _ 14 (by decide +kernel))
noncomputable def n_71_0 (c : qV) : qF := (sF c [(.iload_n 0, 1, 0, 0, 0), (.iload_n 1, 1, 0, 0, 0)] (bF (.if_icmp .lt 12, 3, 14, 0, 0)
 (n_71_14 c)
 (sF c [(.iload_n 0, 1, 0, 0, 0), (.iload_n 2, 1, 0, 0, 0)] (bF (.if_icmp .gt 7, 3, 14, 0, 0)
 (n_71_14 c)
 (sF c [(.iconst 1, 1, 0, 0, 0), (.goto 4, 3, 15, 0, 0)] (n_71_15 c))))))
theorem s_71_0 {G : qG} {d : Nat} {c : qV} (hc : qvok G d c) : Snd G (d + 1) 71 0 (n_71_0 c) := (sF_snd qk_71 hy_71 hc (bF_snd (pc := 2) qk_71 (by decide +kernel)
 (s_71_14 hc)
 (sF_snd qk_71 hy_71 hc (bF_snd (pc := 7) qk_71 (by decide +kernel)
 (s_71_14 hc)
 (sF_snd qk_71 hy_71 hc (s_71_15 hc) _ 10 (by decide +kernel))) _ 5 (by decide +kernel))) _ 0 (by decide +kernel))
/-! CheesePostModel.refuses(I)I -/
theorem hy_72 : (qnm 72).cls = qocn (qoc 72) := by decide +kernel
noncomputable def n_72_0 (c : qV) : qF := (sF c [(.aload_n 0, 1, 0, 0, 0), (.iload_n 1, 1, 0, 0, 0), (.putfield 3, 3, 11, 0, 0), (.aload_n 0, 1, 0, 0, 0), (.getfield 7, 3, 11, 1, 2), (.iload_n 1, 1, 0, 0, 0), (.ineg, 1, 0, 0, 0), (.dup2, 1, 0, 0, 0), (.iaload, 1, 0, 0, 0), (.iconst 1, 1, 0, 0, 0), (.iadd, 1, 0, 0, 0), (.iastore, 1, 0, 0, 0), (.iload_n 1, 1, 0, 0, 0)] rI)
theorem s_72_0 {G : qG} {d : Nat} {c : qV} (hc : qvok G d c) : Snd G (d + 1) 72 0 (n_72_0 c) := (sF_snd qk_72 hy_72 hc (rI_snd (pc := 17) qk_72 (by decide +kernel) (by decide +kernel)) _ 0 (by decide +kernel))
/-! CheesePostModel.good(I)I -/
theorem hy_73 : (qnm 73).cls = qocn (qoc 73) := by decide +kernel
noncomputable def n_73_0 (c : qV) : qF := (sF c [(.aload_n 0, 1, 0, 0, 0), (.iconst 0, 1, 0, 0, 0), (.putfield 3, 3, 11, 0, 0), (.iload_n 1, 1, 0, 0, 0)] rI)
theorem s_73_0 {G : qG} {d : Nat} {c : qV} (hc : qvok G d c) : Snd G (d + 1) 73 0 (n_73_0 c) := (sF_snd qk_73 hy_73 hc (rI_snd (pc := 6) qk_73 (by decide +kernel) (by decide +kernel)) _ 0 (by decide +kernel))
/-! CheesePostModel.isIn(II)Z -/
theorem hy_74 : (qnm 74).cls = qocn (qoc 74) := by decide +kernel
noncomputable def n_74_14 (c : qV) : qF := rZ
theorem s_74_14 {G : qG} {d : Nat} {c : qV} (hc : qvok G d c) : Snd G (d + 1) 74 14 (n_74_14 c) := (rZ_snd (pc := 14) qk_74 (by decide +kernel) (by decide +kernel))
noncomputable def n_74_0 (c : qV) : qF := (sF c [(.iload_n 0, 1, 0, 0, 0), (.iload_n 1, 1, 0, 0, 0), (.ishr, 1, 0, 0, 0), (.iconst 1, 1, 0, 0, 0), (.iand, 1, 0, 0, 0), (.iconst 1, 1, 0, 0, 0)] (bF (.if_icmp .ne 7, 3, 13, 0, 0)
 (sF c [(.iconst 0, 1, 0, 0, 0)] (n_74_14 c))
 (sF c [(.iconst 1, 1, 0, 0, 0), (.goto 4, 3, 14, 0, 0)] (n_74_14 c))))
theorem s_74_0 {G : qG} {d : Nat} {c : qV} (hc : qvok G d c) : Snd G (d + 1) 74 0 (n_74_0 c) := (sF_snd qk_74 hy_74 hc (bF_snd (pc := 6) qk_74 (by decide +kernel)
 (sF_snd qk_74 hy_74 hc (s_74_14 hc) _ 13 (by decide +kernel))
 (sF_snd qk_74 hy_74 hc (s_74_14 hc) _ 9 (by decide +kernel))) _ 0 (by decide +kernel))
/-! CheesePostModel.either(I)I -/
theorem hy_75 : (qnm 75).cls = qocn (qoc 75) := by decide +kernel
noncomputable def n_75_10 (c : qV) : qF := rI
theorem s_75_10 {G : qG} {d : Nat} {c : qV} (hc : qvok G d c) : Snd G (d + 1) 75 10 (n_75_10 c) := (rI_snd (pc := 10) qk_75 (by decide +kernel) (by decide +kernel))
noncomputable def n_75_0 (c : qV) : qF := (sF c [(.iload_n 0, 1, 0, 0, 0)] (bF (.ifCond .ge 8, 3, 9, 0, 0)
 (sF c [(.iload_n 0, 1, 0, 0, 0)] (n_75_10 c))
 (sF c [(.iload_n 0, 1, 0, 0, 0), (.ineg, 1, 0, 0, 0), (.goto 4, 3, 10, 0, 0)] (n_75_10 c))))
theorem s_75_0 {G : qG} {d : Nat} {c : qV} (hc : qvok G d c) : Snd G (d + 1) 75 0 (n_75_0 c) := (sF_snd qk_75 hy_75 hc (bF_snd (pc := 1) qk_75 (by decide +kernel)
 (sF_snd qk_75 hy_75 hc (s_75_10 hc) _ 9 (by decide +kernel))
 (sF_snd qk_75 hy_75 hc (s_75_10 hc) _ 4 (by decide +kernel))) _ 0 (by decide +kernel))
/-! CheesePostModel.<init>()V -/
theorem hy_76 : (qnm 76).cls = qocn (qoc 76) := by decide +kernel
noncomputable def n_76_1250 (c : qV) : qF := (sF c [(.aload_n 0, 1, 0, 0, 0), (.getfield 17, 3, 11, 2, 2), (.sipush 261, 3, 0, 0, 0), (.iconst 3, 1, 0, 0, 0), (.iastore, 1, 0, 0, 0), (.aload_n 0, 1, 0, 0, 0), (.getfield 17, 3, 11, 2, 2), (.sipush 262, 3, 0, 0, 0), (.bipush 10, 2, 0, 0, 0), (.iastore, 1, 0, 0, 0), (.aload_n 0, 1, 0, 0, 0), (.getfield 17, 3, 11, 2, 2), (.sipush 263, 3, 0, 0, 0), (.iconst 2, 1, 0, 0, 0), (.iastore, 1, 0, 0, 0), (.aload_n 0, 1, 0, 0, 0), (.getfield 17, 3, 11, 2, 2), (.sipush 270, 3, 0, 0, 0), (.iconst (-1), 1, 0, 0, 0), (.iastore, 1, 0, 0, 0)] rV)
theorem s_76_1250 {G : qG} {d : Nat} {c : qV} (hc : qvok G d c) : Snd G (d + 1) 76 1250 (n_76_1250 c) := (sF_snd qk_76 hy_76 hc (rV_snd (pc := 1287) qk_76 (by decide +kernel) (by decide +kernel)) _ 1250 (by decide +kernel))
noncomputable def f_76_1220 (c : qV) (K1220 : qF) : qF := (sF c [(.iload_n 1, 1, 0, 0, 0), (.bipush 80, 2, 0, 0, 0)] (bF (.if_icmp .ge 27, 3, 1250, 0, 0)
 (n_76_1250 c)
 (sF c [(.aload_n 0, 1, 0, 0, 0), (.getfield 17, 3, 11, 2, 2), (.iconst 0, 1, 0, 0, 0), (.iload_n 1, 1, 0, 0, 0), (.iadd, 1, 0, 0, 0), (.bipush 90, 2, 0, 0, 0), (.bipush 10, 2, 0, 0, 0), (.iload_n 1, 1, 0, 0, 0), (.bipush 8, 2, 0, 0, 0), (.idiv, 1, 0, 0, 0), (.imul, 1, 0, 0, 0), (.isub, 1, 0, 0, 0), (.iastore, 1, 0, 0, 0), (.iinc 1 1, 3, 0, 0, 0), (.goto (-27), 3, 1220, 0, 0)] K1220)))
noncomputable def n_76_1220 (c : qV) : qF := lp (f_76_1220 c) qLF
theorem s_76_1220 {G : qG} {d : Nat} {c : qV} (hc : qvok G d c) : Snd G (d + 1) 76 1220 (n_76_1220 c) := lp_snd (fun K1220 h1220 => (sF_snd qk_76 hy_76 hc (bF_snd (pc := 1223) qk_76 (by decide +kernel)
 (s_76_1250 hc)
 (sF_snd qk_76 hy_76 hc h1220 _ 1226 (by decide +kernel))) _ 1220 (by decide +kernel))) _
noncomputable def n_76_0 (c : qV) : qF := (sF c [(.aload_n 0, 1, 0, 0, 0), (.invokespecial 11, 3, 999, 0, 0), (.aload_n 0, 1, 0, 0, 0), (.bipush 7, 2, 0, 0, 0), (.newarray .int, 2, 100, 0, 0), (.putfield 7, 3, 11, 1, 2), (.aload_n 0, 1, 0, 0, 0), (.sipush 5878, 3, 0, 0, 0), (.newarray .int, 2, 100, 0, 0), (.putfield 17, 3, 11, 2, 2), (.aload_n 0, 1, 0, 0, 0), (.sipush 11756, 3, 0, 0, 0), (.newarray .int, 2, 100, 0, 0), (.putfield 20, 3, 11, 3, 2), (.aload_n 0, 1, 0, 0, 0), (.sipush 5878, 3, 0, 0, 0), (.newarray .int, 2, 100, 0, 0), (.putfield 23, 3, 11, 4, 2), (.aload_n 0, 1, 0, 0, 0), (.iconst 2, 1, 0, 0, 0), (.newarray .boolean, 2, 102, 0, 0), (.putfield 26, 3, 11, 5, 2), (.aload_n 0, 1, 0, 0, 0), (.sipush 151, 3, 0, 0, 0), (.newarray .byte, 2, 101, 0, 0), (.dup, 1, 0, 0, 0), (.iconst 0, 1, 0, 0, 0), (.bipush 115, 2, 0, 0, 0), (.bastore, 1, 0, 0, 0), (.dup, 1, 0, 0, 0), (.iconst 1, 1, 0, 0, 0), (.bipush 108, 2, 0, 0, 0), (.bastore, 1, 0, 0, 0), (.dup, 1, 0, 0, 0), (.iconst 2, 1, 0, 0, 0), (.bipush 111, 2, 0, 0, 0), (.bastore, 1, 0, 0, 0), (.dup, 1, 0, 0, 0), (.iconst 3, 1, 0, 0, 0), (.bipush 119, 2, 0, 0, 0), (.bastore, 1, 0, 0, 0), (.dup, 1, 0, 0, 0), (.iconst 4, 1, 0, 0, 0), (.bipush 115, 2, 0, 0, 0), (.bastore, 1, 0, 0, 0), (.dup, 1, 0, 0, 0), (.iconst 5, 1, 0, 0, 0), (.bipush 32, 2, 0, 0, 0), (.bastore, 1, 0, 0, 0), (.dup, 1, 0, 0, 0), (.bipush 6, 2, 0, 0, 0), (.bipush 99, 2, 0, 0, 0), (.bastore, 1, 0, 0, 0), (.dup, 1, 0, 0, 0), (.bipush 7, 2, 0, 0, 0), (.bipush 111, 2, 0, 0, 0), (.bastore, 1, 0, 0, 0), (.dup, 1, 0, 0, 0), (.bipush 8, 2, 0, 0, 0), (.bipush 115, 2, 0, 0, 0), (.bastore, 1, 0, 0, 0), (.dup, 1, 0, 0, 0), (.bipush 9, 2, 0, 0, 0), (.bipush 116, 2, 0, 0, 0), (.bastore, 1, 0, 0, 0), (.dup, 1, 0, 0, 0), (.bipush 10, 2, 0, 0, 0), (.bipush 115, 2, 0, 0, 0), (.bastore, 1, 0, 0, 0), (.dup, 1, 0, 0, 0), (.bipush 11, 2, 0, 0, 0), (.bipush 32, 2, 0, 0, 0), (.bastore, 1, 0, 0, 0), (.dup, 1, 0, 0, 0), (.bipush 12, 2, 0, 0, 0), (.bipush 115, 2, 0, 0, 0), (.bastore, 1, 0, 0, 0), (.dup, 1, 0, 0, 0), (.bipush 13, 2, 0, 0, 0), (.bipush 104, 2, 0, 0, 0), (.bastore, 1, 0, 0, 0), (.dup, 1, 0, 0, 0), (.bipush 14, 2, 0, 0, 0), (.bipush 117, 2, 0, 0, 0), (.bastore, 1, 0, 0, 0), (.dup, 1, 0, 0, 0), (.bipush 15, 2, 0, 0, 0), (.bipush 116, 2, 0, 0, 0), (.bastore, 1, 0, 0, 0), (.dup, 1, 0, 0, 0), (.bipush 16, 2, 0, 0, 0), (.bipush 115, 2, 0, 0, 0), (.bastore, 1, 0, 0, 0), (.dup, 1, 0, 0, 0), (.bipush 17, 2, 0, 0, 0), (.bipush 32, 2, 0, 0, 0), (.bastore, 1, 0, 0, 0), (.dup, 1, 0, 0, 0), (.bipush 18, 2, 0, 0, 0), (.bipush 101, 2, 0, 0, 0), (.bastore, 1, 0, 0, 0), (.dup, 1, 0, 0, 0), (.bipush 19, 2, 0, 0, 0), (.bipush 97, 2, 0, 0, 0), (.bastore, 1, 0, 0, 0), (.dup, 1, 0, 0, 0), (.bipush 20, 2, 0, 0, 0), (.bipush 116, 2, 0, 0, 0), (.bastore, 1, 0, 0, 0), (.dup, 1, 0, 0, 0), (.bipush 21, 2, 0, 0, 0), (.bipush 115, 2, 0, 0, 0), (.bastore, 1, 0, 0, 0), (.dup, 1, 0, 0, 0), (.bipush 22, 2, 0, 0, 0), (.bipush 32, 2, 0, 0, 0), (.bastore, 1, 0, 0, 0), (.dup, 1, 0, 0, 0), (.bipush 23, 2, 0, 0, 0), (.bipush 105, 2, 0, 0, 0), (.bastore, 1, 0, 0, 0), (.dup, 1, 0, 0, 0), (.bipush 24, 2, 0, 0, 0), (.bipush 102, 2, 0, 0, 0), (.bastore, 1, 0, 0, 0), (.dup, 1, 0, 0, 0), (.bipush 25, 2, 0, 0, 0), (.bipush 32, 2, 0, 0, 0), (.bastore, 1, 0, 0, 0), (.dup, 1, 0, 0, 0), (.bipush 26, 2, 0, 0, 0), (.bipush 111, 2, 0, 0, 0), (.bastore, 1, 0, 0, 0), (.dup, 1, 0, 0, 0), (.bipush 27, 2, 0, 0, 0), (.bipush 114, 2, 0, 0, 0), (.bastore, 1, 0, 0, 0), (.dup, 1, 0, 0, 0), (.bipush 28, 2, 0, 0, 0), (.bipush 32, 2, 0, 0, 0), (.bastore, 1, 0, 0, 0), (.dup, 1, 0, 0, 0), (.bipush 29, 2, 0, 0, 0), (.bipush 97, 2, 0, 0, 0), (.bastore, 1, 0, 0, 0), (.dup, 1, 0, 0, 0), (.bipush 30, 2, 0, 0, 0), (.bipush 110, 2, 0, 0, 0), (.bastore, 1, 0, 0, 0), (.dup, 1, 0, 0, 0), (.bipush 31, 2, 0, 0, 0), (.bipush 100, 2, 0, 0, 0), (.bastore, 1, 0, 0, 0), (.dup, 1, 0, 0, 0), (.bipush 32, 2, 0, 0, 0), (.bipush 32, 2, 0, 0, 0), (.bastore, 1, 0, 0, 0), (.dup, 1, 0, 0, 0), (.bipush 33, 2, 0, 0, 0), (.bipush 110, 2, 0, 0, 0), (.bastore, 1, 0, 0, 0), (.dup, 1, 0, 0, 0), (.bipush 34, 2, 0, 0, 0), (.bipush 111, 2, 0, 0, 0), (.bastore, 1, 0, 0, 0), (.dup, 1, 0, 0, 0), (.bipush 35, 2, 0, 0, 0), (.bipush 116, 2, 0, 0, 0), (.bastore, 1, 0, 0, 0), (.dup, 1, 0, 0, 0), (.bipush 36, 2, 0, 0, 0), (.bipush 32, 2, 0, 0, 0), (.bastore, 1, 0, 0, 0), (.dup, 1, 0, 0, 0), (.bipush 37, 2, 0, 0, 0), (.bipush 120, 2, 0, 0, 0), (.bastore, 1, 0, 0, 0), (.dup, 1, 0, 0, 0), (.bipush 38, 2, 0, 0, 0), (.bipush 32, 2, 0, 0, 0), (.bastore, 1, 0, 0, 0), (.dup, 1, 0, 0, 0), (.bipush 39, 2, 0, 0, 0), (.bipush 121, 2, 0, 0, 0), (.bastore, 1, 0, 0, 0), (.dup, 1, 0, 0, 0), (.bipush 40, 2, 0, 0, 0), (.bipush 32, 2, 0, 0, 0), (.bastore, 1, 0, 0, 0), (.dup, 1, 0, 0, 0), (.bipush 41, 2, 0, 0, 0), (.bipush 104, 2, 0, 0, 0), (.bastore, 1, 0, 0, 0), (.dup, 1, 0, 0, 0), (.bipush 42, 2, 0, 0, 0), (.bipush 101, 2, 0, 0, 0), (.bastore, 1, 0, 0, 0), (.dup, 1, 0, 0, 0), (.bipush 43, 2, 0, 0, 0), (.bipush 105, 2, 0, 0, 0), (.bastore, 1, 0, 0, 0), (.dup, 1, 0, 0, 0), (.bipush 44, 2, 0, 0, 0), (.bipush 103, 2, 0, 0, 0), (.bastore, 1, 0, 0, 0), (.dup, 1, 0, 0, 0), (.bipush 45, 2, 0, 0, 0), (.bipush 104, 2, 0, 0, 0), (.bastore, 1, 0, 0, 0), (.dup, 1, 0, 0, 0), (.bipush 46, 2, 0, 0, 0), (.bipush 116, 2, 0, 0, 0), (.bastore, 1, 0, 0, 0), (.dup, 1, 0, 0, 0), (.bipush 47, 2, 0, 0, 0), (.bipush 32, 2, 0, 0, 0), (.bastore, 1, 0, 0, 0), (.dup, 1, 0, 0, 0), (.bipush 48, 2, 0, 0, 0), (.bipush 102, 2, 0, 0, 0), (.bastore, 1, 0, 0, 0), (.dup, 1, 0, 0, 0), (.bipush 49, 2, 0, 0, 0), (.bipush 101, 2, 0, 0, 0), (.bastore, 1, 0, 0, 0), (.dup, 1, 0, 0, 0), (.bipush 50, 2, 0, 0, 0), (.bipush 110, 2, 0, 0, 0), (.bastore, 1, 0, 0, 0), (.dup, 1, 0, 0, 0), (.bipush 51, 2, 0, 0, 0), (.bipush 99, 2, 0, 0, 0), (.bastore, 1, 0, 0, 0), (.dup, 1, 0, 0, 0), (.bipush 52, 2, 0, 0, 0), (.bipush 101, 2, 0, 0, 0), (.bastore, 1, 0, 0, 0), (.dup, 1, 0, 0, 0), (.bipush 53, 2, 0, 0, 0), (.bipush 32, 2, 0, 0, 0), (.bastore, 1, 0, 0, 0), (.dup, 1, 0, 0, 0), (.bipush 54, 2, 0, 0, 0), (.bipush 115, 2, 0, 0, 0), (.bastore, 1, 0, 0, 0), (.dup, 1, 0, 0, 0), (.bipush 55, 2, 0, 0, 0), (.bipush 112, 2, 0, 0, 0), (.bastore, 1, 0, 0, 0), (.dup, 1, 0, 0, 0), (.bipush 56, 2, 0, 0, 0), (.bipush 101, 2, 0, 0, 0), (.bastore, 1, 0, 0, 0), (.dup, 1, 0, 0, 0), (.bipush 57, 2, 0, 0, 0), (.bipush 101, 2, 0, 0, 0), (.bastore, 1, 0, 0, 0), (.dup, 1, 0, 0, 0), (.bipush 58, 2, 0, 0, 0), (.bipush 100, 2, 0, 0, 0), (.bastore, 1, 0, 0, 0), (.dup, 1, 0, 0, 0), (.bipush 59, 2, 0, 0, 0), (.bipush 32, 2, 0, 0, 0), (.bastore, 1, 0, 0, 0), (.dup, 1, 0, 0, 0), (.bipush 60, 2, 0, 0, 0), (.bipush 115, 2, 0, 0, 0), (.bastore, 1, 0, 0, 0), (.dup, 1, 0, 0, 0), (.bipush 61, 2, 0, 0, 0), (.bipush 105, 2, 0, 0, 0), (.bastore, 1, 0, 0, 0), (.dup, 1, 0, 0, 0), (.bipush 62, 2, 0, 0, 0), (.bipush 122, 2, 0, 0, 0), (.bastore, 1, 0, 0, 0), (.dup, 1, 0, 0, 0), (.bipush 63, 2, 0, 0, 0), (.bipush 101, 2, 0, 0, 0), (.bastore, 1, 0, 0, 0), (.dup, 1, 0, 0, 0), (.bipush 64, 2, 0, 0, 0), (.bipush 32, 2, 0, 0, 0), (.bastore, 1, 0, 0, 0), (.dup, 1, 0, 0, 0), (.bipush 65, 2, 0, 0, 0), (.bipush 114, 2, 0, 0, 0), (.bastore, 1, 0, 0, 0), (.dup, 1, 0, 0, 0), (.bipush 66, 2, 0, 0, 0), (.bipush 105, 2, 0, 0, 0), (.bastore, 1, 0, 0, 0), (.dup, 1, 0, 0, 0), (.bipush 67, 2, 0, 0, 0), (.bipush 112, 2, 0, 0, 0), (.bastore, 1, 0, 0, 0), (.dup, 1, 0, 0, 0), (.bipush 68, 2, 0, 0, 0), (.bipush 101, 2, 0, 0, 0), (.bastore, 1, 0, 0, 0), (.dup, 1, 0, 0, 0), (.bipush 69, 2, 0, 0, 0), (.bipush 32, 2, 0, 0, 0), (.bastore, 1, 0, 0, 0), (.dup, 1, 0, 0, 0), (.bipush 70, 2, 0, 0, 0), (.bipush 104, 2, 0, 0, 0), (.bastore, 1, 0, 0, 0), (.dup, 1, 0, 0, 0), (.bipush 71, 2, 0, 0, 0), (.bipush 117, 2, 0, 0, 0), (.bastore, 1, 0, 0, 0), (.dup, 1, 0, 0, 0), (.bipush 72, 2, 0, 0, 0), (.bipush 110, 2, 0, 0, 0), (.bastore, 1, 0, 0, 0), (.dup, 1, 0, 0, 0), (.bipush 73, 2, 0, 0, 0), (.bipush 103, 2, 0, 0, 0), (.bastore, 1, 0, 0, 0), (.dup, 1, 0, 0, 0), (.bipush 74, 2, 0, 0, 0), (.bipush 101, 2, 0, 0, 0), (.bastore, 1, 0, 0, 0), (.dup, 1, 0, 0, 0), (.bipush 75, 2, 0, 0, 0), (.bipush 114, 2, 0, 0, 0), (.bastore, 1, 0, 0, 0), (.dup, 1, 0, 0, 0), (.bipush 76, 2, 0, 0, 0), (.bipush 32, 2, 0, 0, 0), (.bastore, 1, 0, 0, 0), (.dup, 1, 0, 0, 0), (.bipush 77, 2, 0, 0, 0), (.bipush 100, 2, 0, 0, 0), (.bastore, 1, 0, 0, 0), (.dup, 1, 0, 0, 0), (.bipush 78, 2, 0, 0, 0), (.bipush 97, 2, 0, 0, 0), (.bastore, 1, 0, 0, 0), (.dup, 1, 0, 0, 0), (.bipush 79, 2, 0, 0, 0), (.bipush 121, 2, 0, 0, 0), (.bastore, 1, 0, 0, 0), (.dup, 1, 0, 0, 0), (.bipush 80, 2, 0, 0, 0), (.bipush 32, 2, 0, 0, 0), (.bastore, 1, 0, 0, 0), (.dup, 1, 0, 0, 0), (.bipush 81, 2, 0, 0, 0), (.bipush 119, 2, 0, 0, 0), (.bastore, 1, 0, 0, 0), (.dup, 1, 0, 0, 0), (.bipush 82, 2, 0, 0, 0), (.bipush 104, 2, 0, 0, 0), (.bastore, 1, 0, 0, 0), (.dup, 1, 0, 0, 0), (.bipush 83, 2, 0, 0, 0), (.bipush 101, 2, 0, 0, 0), (.bastore, 1, 0, 0, 0), (.dup, 1, 0, 0, 0), (.bipush 84, 2, 0, 0, 0), (.bipush 101, 2, 0, 0, 0), (.bastore, 1, 0, 0, 0), (.dup, 1, 0, 0, 0), (.bipush 85, 2, 0, 0, 0), (.bipush 108, 2, 0, 0, 0), (.bastore, 1, 0, 0, 0), (.dup, 1, 0, 0, 0), (.bipush 86, 2, 0, 0, 0), (.bipush 115, 2, 0, 0, 0), (.bastore, 1, 0, 0, 0), (.dup, 1, 0, 0, 0), (.bipush 87, 2, 0, 0, 0), (.bipush 32, 2, 0, 0, 0), (.bastore, 1, 0, 0, 0), (.dup, 1, 0, 0, 0), (.bipush 88, 2, 0, 0, 0), (.bipush 102, 2, 0, 0, 0), (.bastore, 1, 0, 0, 0), (.dup, 1, 0, 0, 0), (.bipush 89, 2, 0, 0, 0), (.bipush 101, 2, 0, 0, 0), (.bastore, 1, 0, 0, 0), (.dup, 1, 0, 0, 0), (.bipush 90, 2, 0, 0, 0), (.bipush 110, 2, 0, 0, 0), (.bastore, 1, 0, 0, 0), (.dup, 1, 0, 0, 0), (.bipush 91, 2, 0, 0, 0), (.bipush 99, 2, 0, 0, 0), (.bastore, 1, 0, 0, 0), (.dup, 1, 0, 0, 0), (.bipush 92, 2, 0, 0, 0), (.bipush 101, 2, 0, 0, 0), (.bastore, 1, 0, 0, 0), (.dup, 1, 0, 0, 0), (.bipush 93, 2, 0, 0, 0), (.bipush 115, 2, 0, 0, 0), (.bastore, 1, 0, 0, 0), (.dup, 1, 0, 0, 0), (.bipush 94, 2, 0, 0, 0), (.bipush 32, 2, 0, 0, 0), (.bastore, 1, 0, 0, 0), (.dup, 1, 0, 0, 0), (.bipush 95, 2, 0, 0, 0), (.bipush 100, 2, 0, 0, 0), (.bastore, 1, 0, 0, 0), (.dup, 1, 0, 0, 0), (.bipush 96, 2, 0, 0, 0), (.bipush 111, 2, 0, 0, 0), (.bastore, 1, 0, 0, 0), (.dup, 1, 0, 0, 0), (.bipush 97, 2, 0, 0, 0), (.bipush 110, 2, 0, 0, 0), (.bastore, 1, 0, 0, 0), (.dup, 1, 0, 0, 0), (.bipush 98, 2, 0, 0, 0), (.bipush 101, 2, 0, 0, 0), (.bastore, 1, 0, 0, 0), (.dup, 1, 0, 0, 0), (.bipush 99, 2, 0, 0, 0), (.bipush 32, 2, 0, 0, 0), (.bastore, 1, 0, 0, 0), (.dup, 1, 0, 0, 0), (.bipush 100, 2, 0, 0, 0), (.bipush 99, 2, 0, 0, 0), (.bastore, 1, 0, 0, 0), (.dup, 1, 0, 0, 0), (.bipush 101, 2, 0, 0, 0), (.bipush 97, 2, 0, 0, 0), (.bastore, 1, 0, 0, 0), (.dup, 1, 0, 0, 0), (.bipush 102, 2, 0, 0, 0), (.bipush 109, 2, 0, 0, 0), (.bastore, 1, 0, 0, 0), (.dup, 1, 0, 0, 0), (.bipush 103, 2, 0, 0, 0), (.bipush 101, 2, 0, 0, 0), (.bastore, 1, 0, 0, 0), (.dup, 1, 0, 0, 0), (.bipush 104, 2, 0, 0, 0), (.bipush 32, 2, 0, 0, 0), (.bastore, 1, 0, 0, 0), (.dup, 1, 0, 0, 0), (.bipush 105, 2, 0, 0, 0), (.bipush 108, 2, 0, 0, 0), (.bastore, 1, 0, 0, 0), (.dup, 1, 0, 0, 0), (.bipush 106, 2, 0, 0, 0), (.bipush 97, 2, 0, 0, 0), (.bastore, 1, 0, 0, 0), (.dup, 1, 0, 0, 0), (.bipush 107, 2, 0, 0, 0), (.bipush 115, 2, 0, 0, 0), (.bastore, 1, 0, 0, 0), (.dup, 1, 0, 0, 0), (.bipush 108, 2, 0, 0, 0), (.bipush 116, 2, 0, 0, 0), (.bastore, 1, 0, 0, 0), (.dup, 1, 0, 0, 0), (.bipush 109, 2, 0, 0, 0), (.bipush 32, 2, 0, 0, 0), (.bastore, 1, 0, 0, 0), (.dup, 1, 0, 0, 0), (.bipush 110, 2, 0, 0, 0), (.bipush 115, 2, 0, 0, 0), (.bastore, 1, 0, 0, 0), (.dup, 1, 0, 0, 0), (.bipush 111, 2, 0, 0, 0), (.bipush 101, 2, 0, 0, 0), (.bastore, 1, 0, 0, 0), (.dup, 1, 0, 0, 0), (.bipush 112, 2, 0, 0, 0), (.bipush 110, 2, 0, 0, 0), (.bastore, 1, 0, 0, 0), (.dup, 1, 0, 0, 0), (.bipush 113, 2, 0, 0, 0), (.bipush 100, 2, 0, 0, 0), (.bastore, 1, 0, 0, 0), (.dup, 1, 0, 0, 0), (.bipush 114, 2, 0, 0, 0), (.bipush 32, 2, 0, 0, 0), (.bastore, 1, 0, 0, 0), (.dup, 1, 0, 0, 0), (.bipush 115, 2, 0, 0, 0), (.bipush 102, 2, 0, 0, 0), (.bastore, 1, 0, 0, 0), (.dup, 1, 0, 0, 0), (.bipush 116, 2, 0, 0, 0), (.bipush 114, 2, 0, 0, 0), (.bastore, 1, 0, 0, 0), (.dup, 1, 0, 0, 0), (.bipush 117, 2, 0, 0, 0), (.bipush 111, 2, 0, 0, 0), (.bastore, 1, 0, 0, 0), (.dup, 1, 0, 0, 0), (.bipush 118, 2, 0, 0, 0), (.bipush 109, 2, 0, 0, 0), (.bastore, 1, 0, 0, 0), (.dup, 1, 0, 0, 0), (.bipush 119, 2, 0, 0, 0), (.bipush 32, 2, 0, 0, 0), (.bastore, 1, 0, 0, 0), (.dup, 1, 0, 0, 0), (.bipush 120, 2, 0, 0, 0), (.bipush 116, 2, 0, 0, 0), (.bastore, 1, 0, 0, 0), (.dup, 1, 0, 0, 0), (.bipush 121, 2, 0, 0, 0), (.bipush 111, 2, 0, 0, 0), (.bastore, 1, 0, 0, 0), (.dup, 1, 0, 0, 0), (.bipush 122, 2, 0, 0, 0), (.bipush 119, 2, 0, 0, 0), (.bastore, 1, 0, 0, 0), (.dup, 1, 0, 0, 0), (.bipush 123, 2, 0, 0, 0), (.bipush 97, 2, 0, 0, 0), (.bastore, 1, 0, 0, 0), (.dup, 1, 0, 0, 0), (.bipush 124, 2, 0, 0, 0), (.bipush 114, 2, 0, 0, 0), (.bastore, 1, 0, 0, 0), (.dup, 1, 0, 0, 0), (.bipush 125, 2, 0, 0, 0), (.bipush 100, 2, 0, 0, 0), (.bastore, 1, 0, 0, 0), (.dup, 1, 0, 0, 0), (.bipush 126, 2, 0, 0, 0), (.bipush 32, 2, 0, 0, 0), (.bastore, 1, 0, 0, 0), (.dup, 1, 0, 0, 0), (.bipush 127, 2, 0, 0, 0), (.bipush 119, 2, 0, 0, 0), (.bastore, 1, 0, 0, 0), (.dup, 1, 0, 0, 0), (.sipush 128, 3, 0, 0, 0), (.bipush 105, 2, 0, 0, 0), (.bastore, 1, 0, 0, 0), (.dup, 1, 0, 0, 0), (.sipush 129, 3, 0, 0, 0), (.bipush 116, 2, 0, 0, 0), (.bastore, 1, 0, 0, 0), (.dup, 1, 0, 0, 0), (.sipush 130, 3, 0, 0, 0), (.bipush 104, 2, 0, 0, 0), (.bastore, 1, 0, 0, 0), (.dup, 1, 0, 0, 0), (.sipush 131, 3, 0, 0, 0), (.bipush 32, 2, 0, 0, 0), (.bastore, 1, 0, 0, 0), (.dup, 1, 0, 0, 0), (.sipush 132, 3, 0, 0, 0), (.bipush 109, 2, 0, 0, 0), (.bastore, 1, 0, 0, 0), (.dup, 1, 0, 0, 0), (.sipush 133, 3, 0, 0, 0), (.bipush 101, 2, 0, 0, 0), (.bastore, 1, 0, 0, 0), (.dup, 1, 0, 0, 0), (.sipush 134, 3, 0, 0, 0), (.bipush 110, 2, 0, 0, 0), (.bastore, 1, 0, 0, 0), (.dup, 1, 0, 0, 0), (.sipush 135, 3, 0, 0, 0), (.bipush 100, 2, 0, 0, 0), (.bastore, 1, 0, 0, 0), (.dup, 1, 0, 0, 0), (.sipush 136, 3, 0, 0, 0), (.bipush 32, 2, 0, 0, 0), (.bastore, 1, 0, 0, 0), (.dup, 1, 0, 0, 0), (.sipush 137, 3, 0, 0, 0), (.bipush 98, 2, 0, 0, 0), (.bastore, 1, 0, 0, 0), (.dup, 1, 0, 0, 0), (.sipush 138, 3, 0, 0, 0), (.bipush 121, 2, 0, 0, 0), (.bastore, 1, 0, 0, 0), (.dup, 1, 0, 0, 0), (.sipush 139, 3, 0, 0, 0), (.bipush 32, 2, 0, 0, 0), (.bastore, 1, 0, 0, 0), (.dup, 1, 0, 0, 0), (.sipush 140, 3, 0, 0, 0), (.bipush 119, 2, 0, 0, 0), (.bastore, 1, 0, 0, 0), (.dup, 1, 0, 0, 0), (.sipush 141, 3, 0, 0, 0), (.bipush 97, 2, 0, 0, 0), (.bastore, 1, 0, 0, 0), (.dup, 1, 0, 0, 0), (.sipush 142, 3, 0, 0, 0), (.bipush 105, 2, 0, 0, 0), (.bastore, 1, 0, 0, 0), (.dup, 1, 0, 0, 0), (.sipush 143, 3, 0, 0, 0), (.bipush 116, 2, 0, 0, 0), (.bastore, 1, 0, 0, 0), (.dup, 1, 0, 0, 0), (.sipush 144, 3, 0, 0, 0), (.bipush 32, 2, 0, 0, 0), (.bastore, 1, 0, 0, 0), (.dup, 1, 0, 0, 0), (.sipush 145, 3, 0, 0, 0), (.bipush 116, 2, 0, 0, 0), (.bastore, 1, 0, 0, 0), (.dup, 1, 0, 0, 0), (.sipush 146, 3, 0, 0, 0), (.bipush 105, 2, 0, 0, 0), (.bastore, 1, 0, 0, 0), (.dup, 1, 0, 0, 0), (.sipush 147, 3, 0, 0, 0), (.bipush 109, 2, 0, 0, 0), (.bastore, 1, 0, 0, 0), (.dup, 1, 0, 0, 0), (.sipush 148, 3, 0, 0, 0), (.bipush 101, 2, 0, 0, 0), (.bastore, 1, 0, 0, 0), (.dup, 1, 0, 0, 0), (.sipush 149, 3, 0, 0, 0), (.bipush 115, 2, 0, 0, 0), (.bastore, 1, 0, 0, 0), (.dup, 1, 0, 0, 0), (.sipush 150, 3, 0, 0, 0), (.bipush 32, 2, 0, 0, 0), (.bastore, 1, 0, 0, 0), (.putfield 30, 3, 11, 7, 2), (.aload_n 0, 1, 0, 0, 0), (.sipush 400, 3, 0, 0, 0), (.newarray .byte, 2, 101, 0, 0), (.putfield 34, 3, 11, 11, 2), (.aload_n 0, 1, 0, 0, 0), (.iconst 5, 1, 0, 0, 0), (.newarray .int, 2, 100, 0, 0), (.putfield 37, 3, 11, 12, 2), (.aload_n 0, 1, 0, 0, 0), (.iconst (-1), 1, 0, 0, 0), (.putfield 40, 3, 11, 14, 0), (.aload_n 0, 1, 0, 0, 0), (.sipush 401, 3, 0, 0, 0), (.newarray .int, 2, 100, 0, 0), (.putfield 43, 3, 11, 15, 2), (.aload_n 0, 1, 0, 0, 0), (.sipush 401, 3, 0, 0, 0), (.newarray .int, 2, 100, 0, 0), (.putfield 46, 3, 11, 16, 2), (.aload_n 0, 1, 0, 0, 0), (.sipush 401, 3, 0, 0, 0), (.newarray .int, 2, 100, 0, 0), (.putfield 49, 3, 11, 17, 2), (.aload_n 0, 1, 0, 0, 0), (.bipush 9, 2, 0, 0, 0), (.newarray .int, 2, 100, 0, 0), (.putfield 52, 3, 11, 25, 2), (.aload_n 0, 1, 0, 0, 0), (.bipush 80, 2, 0, 0, 0), (.newarray .boolean, 2, 102, 0, 0), (.putfield 55, 3, 11, 26, 2), (.aload_n 0, 1, 0, 0, 0), (.bipush 80, 2, 0, 0, 0), (.newarray .boolean, 2, 102, 0, 0), (.putfield 58, 3, 11, 27, 2), (.aload_n 0, 1, 0, 0, 0), (.bipush 60, 2, 0, 0, 0), (.newarray .int, 2, 100, 0, 0), (.putfield 61, 3, 11, 28, 2), (.aload_n 0, 1, 0, 0, 0), (.bipush 61, 2, 0, 0, 0), (.newarray .int, 2, 100, 0, 0), (.putfield 64, 3, 11, 29, 2), (.aload_n 0, 1, 0, 0, 0), (.bipush 61, 2, 0, 0, 0), (.newarray .boolean, 2, 102, 0, 0), (.putfield 67, 3, 11, 30, 2), (.aload_n 0, 1, 0, 0, 0), (.iconst (-1), 1, 0, 0, 0), (.putfield 70, 3, 11, 38, 0), (.aload_n 0, 1, 0, 0, 0), (.iconst 4, 1, 0, 0, 0), (.newarray .int, 2, 100, 0, 0), (.putfield 73, 3, 11, 39, 2), (.aload_n 0, 1, 0, 0, 0), (.bipush 108, 2, 0, 0, 0), (.newarray .int, 2, 100, 0, 0), (.putfield 76, 3, 11, 41, 2), (.aload_n 0, 1, 0, 0, 0), (.bipush 61, 2, 0, 0, 0), (.newarray .boolean, 2, 102, 0, 0), (.putfield 79, 3, 11, 42, 2), (.aload_n 0, 1, 0, 0, 0), (.bipush 61, 2, 0, 0, 0), (.newarray .boolean, 2, 102, 0, 0), (.putfield 82, 3, 11, 43, 2), (.aload_n 0, 1, 0, 0, 0), (.sipush 840, 3, 0, 0, 0), (.newarray .int, 2, 100, 0, 0), (.putfield 85, 3, 11, 45, 2), (.aload_n 0, 1, 0, 0, 0), (.sipush 840, 3, 0, 0, 0), (.newarray .int, 2, 100, 0, 0), (.putfield 88, 3, 11, 46, 2), (.aload_n 0, 1, 0, 0, 0), (.bipush 64, 2, 0, 0, 0), (.newarray .int, 2, 100, 0, 0), (.putfield 91, 3, 11, 49, 2), (.aload_n 0, 1, 0, 0, 0), (.sipush 2304, 3, 0, 0, 0), (.newarray .int, 2, 100, 0, 0), (.putfield 94, 3, 11, 50, 2), (.aload_n 0, 1, 0, 0, 0), (.sipush 2304, 3, 0, 0, 0), (.newarray .int, 2, 100, 0, 0), (.putfield 97, 3, 11, 51, 2), (.aload_n 0, 1, 0, 0, 0), (.bipush 6, 2, 0, 0, 0), (.newarray .int, 2, 100, 0, 0), (.putfield 100, 3, 11, 52, 2), (.aload_n 0, 1, 0, 0, 0), (.sipush 2048, 3, 0, 0, 0), (.newarray .int, 2, 100, 0, 0), (.putfield 103, 3, 11, 53, 2), (.aload_n 0, 1, 0, 0, 0), (.sipush 256, 3, 0, 0, 0), (.newarray .int, 2, 100, 0, 0), (.putfield 106, 3, 11, 54, 2), (.aload_n 0, 1, 0, 0, 0), (.sipush 256, 3, 0, 0, 0), (.newarray .int, 2, 100, 0, 0), (.putfield 109, 3, 11, 55, 2), (.aload_n 0, 1, 0, 0, 0), (.sipush 256, 3, 0, 0, 0), (.newarray .int, 2, 100, 0, 0), (.putfield 112, 3, 11, 56, 2), (.aload_n 0, 1, 0, 0, 0), (.iconst (-1), 1, 0, 0, 0), (.putfield 115, 3, 11, 57, 0), (.aload_n 0, 1, 0, 0, 0), (.iconst 4, 1, 0, 0, 0), (.newarray .long, 2, 103, 0, 0), (.putfield 118, 3, 11, 62, 2), (.aload_n 0, 1, 0, 0, 0), (.bipush 108, 2, 0, 0, 0), (.newarray .int, 2, 100, 0, 0), (.putfield 122, 3, 11, 67, 2), (.iconst 0, 1, 0, 0, 0), (.istore_n 1, 1, 0, 0, 0)] (n_76_1220 c))
theorem s_76_0 {G : qG} {d : Nat} {c : qV} (hc : qvok G d c) : Snd G (d + 1) 76 0 (n_76_0 c) := (sF_snd qk_76 hy_76 hc (s_76_1220 hc) _ 0 (by decide +kernel))
/-! CheesePostModel.image(I)I -/
theorem hy_77 : (qnm 77).cls = qocn (qoc 77) := by decide +kernel
noncomputable def n_77_48 (c : qV) : qF := (sF c [(.aload_n 0, 1, 0, 0, 0), (.getfield 26, 3, 11, 5, 2), (.iload_n 1, 1, 0, 0, 0), (.iconst 1, 1, 0, 0, 0), (.bastore, 1, 0, 0, 0), (.aload_n 0, 1, 0, 0, 0), (.iconst 0, 1, 0, 0, 0), (.invokevirtual 133, 3, 73, 1, 11)] rI)
theorem s_77_48 {G : qG} {d : Nat} {c : qV} (hc : qvok G d c) : Snd G (d + 1) 77 48 (n_77_48 c) := (sF_snd qk_77 hy_77 hc (rI_snd (pc := 60) qk_77 (by decide +kernel) (by decide +kernel)) _ 48 (by decide +kernel))
noncomputable def f_77_17 (c : qV) (K17 : qF) : qF := (sF c [(.iload_n 2, 1, 0, 0, 0), (.sipush 5878, 3, 0, 0, 0)] (bF (.if_icmp .ge 27, 3, 48, 0, 0)
 (n_77_48 c)
 (sF c [(.aload_n 0, 1, 0, 0, 0), (.getfield 20, 3, 11, 3, 2), (.sipush 5878, 3, 0, 0, 0), (.iload_n 1, 1, 0, 0, 0), (.imul, 1, 0, 0, 0), (.iload_n 2, 1, 0, 0, 0), (.iadd, 1, 0, 0, 0), (.aload_n 0, 1, 0, 0, 0), (.getfield 17, 3, 11, 2, 2), (.iload_n 2, 1, 0, 0, 0), (.iaload, 1, 0, 0, 0), (.iastore, 1, 0, 0, 0), (.iinc 2 1, 3, 0, 0, 0), (.goto (-28), 3, 17, 0, 0)] K17)))
noncomputable def n_77_17 (c : qV) : qF := lp (f_77_17 c) qLF
theorem s_77_17 {G : qG} {d : Nat} {c : qV} (hc : qvok G d c) : Snd G (d + 1) 77 17 (n_77_17 c) := lp_snd (fun K17 h17 => (sF_snd qk_77 hy_77 hc (bF_snd (pc := 21) qk_77 (by decide +kernel)
 (s_77_48 hc)
 (sF_snd qk_77 hy_77 hc h17 _ 24 (by decide +kernel))) _ 17 (by decide +kernel))) _
noncomputable def n_77_0 (c : qV) : qF := (sF c [(.iload_n 1, 1, 0, 0, 0), (.iconst 0, 1, 0, 0, 0), (.iconst 1, 1, 0, 0, 0), (.invokestatic 125, 3, 71, 3, 0)] (bF (.ifCond .ne 9, 3, 15, 0, 0)
 (sF c [(.iconst 0, 1, 0, 0, 0), (.istore_n 2, 1, 0, 0, 0)] (n_77_17 c))
 (sF c [(.aload_n 0, 1, 0, 0, 0), (.iconst (-1), 1, 0, 0, 0), (.invokevirtual 129, 3, 72, 1, 11)] rI)))
theorem s_77_0 {G : qG} {d : Nat} {c : qV} (hc : qvok G d c) : Snd G (d + 1) 77 0 (n_77_0 c) := (sF_snd qk_77 hy_77 hc (bF_snd (pc := 6) qk_77 (by decide +kernel)
 (sF_snd qk_77 hy_77 hc (s_77_17 hc) _ 15 (by decide +kernel))
 (sF_snd qk_77 hy_77 hc (rI_snd (pc := 14) qk_77 (by decide +kernel) (by decide +kernel)) _ 9 (by decide +kernel))) _ 0 (by decide +kernel))
/-! CheesePostModel.back(I)I -/
theorem hy_78 : (qnm 78).cls = qocn (qoc 78) := by decide +kernel
noncomputable def n_78_64 (c : qV) : qF := (sF c [(.aload_n 0, 1, 0, 0, 0), (.iconst 0, 1, 0, 0, 0), (.putfield 136, 3, 11, 47, 0), (.aload_n 0, 1, 0, 0, 0), (.iconst 0, 1, 0, 0, 0), (.invokevirtual 133, 3, 73, 1, 11)] rI)
theorem s_78_64 {G : qG} {d : Nat} {c : qV} (hc : qvok G d c) : Snd G (d + 1) 78 64 (n_78_64 c) := (sF_snd qk_78 hy_78 hc (rI_snd (pc := 74) qk_78 (by decide +kernel) (by decide +kernel)) _ 64 (by decide +kernel))
noncomputable def f_78_33 (c : qV) (K33 : qF) : qF := (sF c [(.iload_n 2, 1, 0, 0, 0), (.sipush 5878, 3, 0, 0, 0)] (bF (.if_icmp .ge 27, 3, 64, 0, 0)
 (n_78_64 c)
 (sF c [(.aload_n 0, 1, 0, 0, 0), (.getfield 17, 3, 11, 2, 2), (.iload_n 2, 1, 0, 0, 0), (.aload_n 0, 1, 0, 0, 0), (.getfield 20, 3, 11, 3, 2), (.sipush 5878, 3, 0, 0, 0), (.iload_n 1, 1, 0, 0, 0), (.imul, 1, 0, 0, 0), (.iload_n 2, 1, 0, 0, 0), (.iadd, 1, 0, 0, 0), (.iaload, 1, 0, 0, 0), (.iastore, 1, 0, 0, 0), (.iinc 2 1, 3, 0, 0, 0), (.goto (-28), 3, 33, 0, 0)] K33)))
noncomputable def n_78_33 (c : qV) : qF := lp (f_78_33 c) qLF
theorem s_78_33 {G : qG} {d : Nat} {c : qV} (hc : qvok G d c) : Snd G (d + 1) 78 33 (n_78_33 c) := lp_snd (fun K33 h33 => (sF_snd qk_78 hy_78 hc (bF_snd (pc := 37) qk_78 (by decide +kernel)
 (s_78_64 hc)
 (sF_snd qk_78 hy_78 hc h33 _ 40 (by decide +kernel))) _ 33 (by decide +kernel))) _
noncomputable def n_78_0 (c : qV) : qF := (sF c [(.iload_n 1, 1, 0, 0, 0), (.iconst 0, 1, 0, 0, 0), (.iconst 1, 1, 0, 0, 0), (.invokestatic 125, 3, 71, 3, 0)] (bF (.ifCond .ne 9, 3, 15, 0, 0)
 (sF c [(.aload_n 0, 1, 0, 0, 0), (.getfield 26, 3, 11, 5, 2), (.iload_n 1, 1, 0, 0, 0), (.baload, 1, 0, 0, 0)] (bF (.ifCond .ne 10, 3, 31, 0, 0)
 (sF c [(.iconst 0, 1, 0, 0, 0), (.istore_n 2, 1, 0, 0, 0)] (n_78_33 c))
 (sF c [(.aload_n 0, 1, 0, 0, 0), (.bipush (-2), 2, 0, 0, 0), (.invokevirtual 129, 3, 72, 1, 11)] rI)))
 (sF c [(.aload_n 0, 1, 0, 0, 0), (.iconst (-1), 1, 0, 0, 0), (.invokevirtual 129, 3, 72, 1, 11)] rI)))
theorem s_78_0 {G : qG} {d : Nat} {c : qV} (hc : qvok G d c) : Snd G (d + 1) 78 0 (n_78_0 c) := (sF_snd qk_78 hy_78 hc (bF_snd (pc := 6) qk_78 (by decide +kernel)
 (sF_snd qk_78 hy_78 hc (bF_snd (pc := 21) qk_78 (by decide +kernel)
 (sF_snd qk_78 hy_78 hc (s_78_33 hc) _ 31 (by decide +kernel))
 (sF_snd qk_78 hy_78 hc (rI_snd (pc := 30) qk_78 (by decide +kernel) (by decide +kernel)) _ 24 (by decide +kernel))) _ 15 (by decide +kernel))
 (sF_snd qk_78 hy_78 hc (rI_snd (pc := 14) qk_78 (by decide +kernel) (by decide +kernel)) _ 9 (by decide +kernel))) _ 0 (by decide +kernel))
/-! CheesePostModel.isCell(I)Z -/
theorem hy_79 : (qnm 79).cls = qocn (qoc 79) := by decide +kernel
noncomputable def n_79_0 (c : qV) : qF := (sF c [(.iload_n 0, 1, 0, 0, 0), (.iconst 0, 1, 0, 0, 0), (.bipush 79, 2, 0, 0, 0), (.invokestatic 125, 3, 71, 3, 0)] rZ)
theorem s_79_0 {G : qG} {d : Nat} {c : qV} (hc : qvok G d c) : Snd G (d + 1) 79 0 (n_79_0 c) := (sF_snd qk_79 hy_79 hc (rZ_snd (pc := 7) qk_79 (by decide +kernel) (by decide +kernel)) _ 0 (by decide +kernel))
/-! CheesePostModel.isEnd(I)Z -/
theorem hy_80 : (qnm 80).cls = qocn (qoc 80) := by decide +kernel
noncomputable def n_80_23 (c : qV) : qF := rZ
theorem s_80_23 {G : qG} {d : Nat} {c : qV} (hc : qvok G d c) : Snd G (d + 1) 80 23 (n_80_23 c) := (rZ_snd (pc := 23) qk_80 (by decide +kernel) (by decide +kernel))
noncomputable def n_80_18 (c : qV) : qF := (sF c [(.iconst 1, 1, 0, 0, 0), (.goto 4, 3, 23, 0, 0)] (n_80_23 c))
theorem s_80_18 {G : qG} {d : Nat} {c : qV} (hc : qvok G d c) : Snd G (d + 1) 80 18 (n_80_18 c) := (sF_snd qk_80 hy_80 hc (s_80_23 hc) _ 18 (by decide +kernel))
noncomputable def n_80_0 (c : qV) : qF := (sF c [(.iload_n 0, 1, 0, 0, 0), (.invokestatic 139, 3, 79, 1, 0)] (bF (.ifCond .ne 14, 3, 18, 0, 0)
 (n_80_18 c)
 (sF c [(.iload_n 0, 1, 0, 0, 0), (.bipush 100, 2, 0, 0, 0), (.bipush 107, 2, 0, 0, 0), (.invokestatic 125, 3, 71, 3, 0)] (bF (.ifCond .eq 7, 3, 22, 0, 0)
 (sF c [(.iconst 0, 1, 0, 0, 0)] (n_80_23 c))
 (n_80_18 c)))))
theorem s_80_0 {G : qG} {d : Nat} {c : qV} (hc : qvok G d c) : Snd G (d + 1) 80 0 (n_80_0 c) := (sF_snd qk_80 hy_80 hc (bF_snd (pc := 4) qk_80 (by decide +kernel)
 (s_80_18 hc)
 (sF_snd qk_80 hy_80 hc (bF_snd (pc := 15) qk_80 (by decide +kernel)
 (sF_snd qk_80 hy_80 hc (s_80_23 hc) _ 22 (by decide +kernel))
 (s_80_18 hc)) _ 7 (by decide +kernel))) _ 0 (by decide +kernel))
/-! CheesePostModel.isHouse(I)Z -/
theorem hy_81 : (qnm 81).cls = qocn (qoc 81) := by decide +kernel
noncomputable def n_81_0 (c : qV) : qF := (sF c [(.iload_n 1, 1, 0, 0, 0), (.iconst 0, 1, 0, 0, 0), (.aload_n 0, 1, 0, 0, 0), (.getfield 17, 3, 11, 2, 2), (.sipush 264, 3, 0, 0, 0), (.iaload, 1, 0, 0, 0), (.iconst 1, 1, 0, 0, 0), (.isub, 1, 0, 0, 0), (.invokestatic 125, 3, 71, 3, 0)] rZ)
theorem s_81_0 {G : qG} {d : Nat} {c : qV} (hc : qvok G d c) : Snd G (d + 1) 81 0 (n_81_0 c) := (sF_snd qk_81 hy_81 hc (rZ_snd (pc := 15) qk_81 (by decide +kernel) (by decide +kernel)) _ 0 (by decide +kernel))
/-! CheesePostModel.isDairy(I)Z -/
theorem hy_82 : (qnm 82).cls = qocn (qoc 82) := by decide +kernel
noncomputable def n_82_0 (c : qV) : qF := (sF c [(.iload_n 1, 1, 0, 0, 0), (.iconst 0, 1, 0, 0, 0), (.aload_n 0, 1, 0, 0, 0), (.getfield 17, 3, 11, 2, 2), (.sipush 265, 3, 0, 0, 0), (.iaload, 1, 0, 0, 0), (.iconst 1, 1, 0, 0, 0), (.isub, 1, 0, 0, 0), (.invokestatic 125, 3, 71, 3, 0)] rZ)
theorem s_82_0 {G : qG} {d : Nat} {c : qV} (hc : qvok G d c) : Snd G (d + 1) 82 0 (n_82_0 c) := (sF_snd qk_82 hy_82 hc (rZ_snd (pc := 15) qk_82 (by decide +kernel) (by decide +kernel)) _ 0 (by decide +kernel))
/-! CheesePostModel.isWheel(I)Z -/
theorem hy_83 : (qnm 83).cls = qocn (qoc 83) := by decide +kernel
noncomputable def n_83_0 (c : qV) : qF := (sF c [(.iload_n 1, 1, 0, 0, 0), (.iconst 0, 1, 0, 0, 0), (.aload_n 0, 1, 0, 0, 0), (.getfield 17, 3, 11, 2, 2), (.sipush 266, 3, 0, 0, 0), (.iaload, 1, 0, 0, 0), (.iconst 1, 1, 0, 0, 0), (.isub, 1, 0, 0, 0), (.invokestatic 125, 3, 71, 3, 0)] rZ)
theorem s_83_0 {G : qG} {d : Nat} {c : qV} (hc : qvok G d c) : Snd G (d + 1) 83 0 (n_83_0 c) := (sF_snd qk_83 hy_83 hc (rZ_snd (pc := 15) qk_83 (by decide +kernel) (by decide +kernel)) _ 0 (by decide +kernel))
/-! CheesePostModel.houseAt(I)I -/
theorem hy_84 : (qnm 84).cls = qocn (qoc 84) := by decide +kernel
noncomputable def n_84_38 (c : qV) : qF := (sF c [(.iconst (-1), 1, 0, 0, 0)] rI)
theorem s_84_38 {G : qG} {d : Nat} {c : qV} (hc : qvok G d c) : Snd G (d + 1) 84 38 (n_84_38 c) := (sF_snd qk_84 hy_84 hc (rI_snd (pc := 39) qk_84 (by decide +kernel) (by decide +kernel)) _ 38 (by decide +kernel))
noncomputable def f_84_2 (c : qV) (K2 : qF) : qF := (sF c [(.iload_n 2, 1, 0, 0, 0), (.aload_n 0, 1, 0, 0, 0), (.getfield 17, 3, 11, 2, 2), (.sipush 264, 3, 0, 0, 0), (.iaload, 1, 0, 0, 0)] (bF (.if_icmp .ge 27, 3, 38, 0, 0)
 (n_84_38 c)
 (sF c [(.aload_n 0, 1, 0, 0, 0), (.getfield 17, 3, 11, 2, 2), (.sipush 160, 3, 0, 0, 0), (.iconst 5, 1, 0, 0, 0), (.iload_n 2, 1, 0, 0, 0), (.imul, 1, 0, 0, 0), (.iadd, 1, 0, 0, 0), (.iaload, 1, 0, 0, 0), (.iload_n 1, 1, 0, 0, 0)] (bF (.if_icmp .ne 5, 3, 32, 0, 0)
 (sF c [(.iinc 2 1, 3, 0, 0, 0), (.goto (-33), 3, 2, 0, 0)] K2)
 (sF c [(.iload_n 2, 1, 0, 0, 0)] rI)))))
noncomputable def n_84_2 (c : qV) : qF := lp (f_84_2 c) qLF
theorem s_84_2 {G : qG} {d : Nat} {c : qV} (hc : qvok G d c) : Snd G (d + 1) 84 2 (n_84_2 c) := lp_snd (fun K2 h2 => (sF_snd qk_84 hy_84 hc (bF_snd (pc := 11) qk_84 (by decide +kernel)
 (s_84_38 hc)
 (sF_snd qk_84 hy_84 hc (bF_snd (pc := 27) qk_84 (by decide +kernel)
 (sF_snd qk_84 hy_84 hc h2 _ 32 (by decide +kernel))
 (sF_snd qk_84 hy_84 hc (rI_snd (pc := 31) qk_84 (by decide +kernel) (by decide +kernel)) _ 30 (by decide +kernel))) _ 14 (by decide +kernel))) _ 2 (by decide +kernel))) _
noncomputable def n_84_0 (c : qV) : qF := (sF c [(.iconst 0, 1, 0, 0, 0), (.istore_n 2, 1, 0, 0, 0)] (n_84_2 c))
theorem s_84_0 {G : qG} {d : Nat} {c : qV} (hc : qvok G d c) : Snd G (d + 1) 84 0 (n_84_0 c) := (sF_snd qk_84 hy_84 hc (s_84_2 hc) _ 0 (by decide +kernel))
/-! CheesePostModel.heightOf(I)I -/
theorem hy_85 : (qnm 85).cls = qocn (qoc 85) := by decide +kernel
noncomputable def n_85_18 (c : qV) : qF := rI
theorem s_85_18 {G : qG} {d : Nat} {c : qV} (hc : qvok G d c) : Snd G (d + 1) 85 18 (n_85_18 c) := (rI_snd (pc := 18) qk_85 (by decide +kernel) (by decide +kernel))
noncomputable def n_85_0 (c : qV) : qF := (sF c [(.iload_n 1, 1, 0, 0, 0), (.bipush 100, 2, 0, 0, 0)] (bF (.if_icmp .ge 14, 3, 17, 0, 0)
 (sF c [(.iconst 0, 1, 0, 0, 0)] (n_85_18 c))
 (sF c [(.aload_n 0, 1, 0, 0, 0), (.getfield 17, 3, 11, 2, 2), (.iconst 0, 1, 0, 0, 0), (.iload_n 1, 1, 0, 0, 0), (.iadd, 1, 0, 0, 0), (.iaload, 1, 0, 0, 0), (.goto 4, 3, 18, 0, 0)] (n_85_18 c))))
theorem s_85_0 {G : qG} {d : Nat} {c : qV} (hc : qvok G d c) : Snd G (d + 1) 85 0 (n_85_0 c) := (sF_snd qk_85 hy_85 hc (bF_snd (pc := 3) qk_85 (by decide +kernel)
 (sF_snd qk_85 hy_85 hc (s_85_18 hc) _ 17 (by decide +kernel))
 (sF_snd qk_85 hy_85 hc (s_85_18 hc) _ 6 (by decide +kernel))) _ 0 (by decide +kernel))
/-! CheesePostModel.replaces(II)I -/
theorem hy_86 : (qnm 86).cls = qocn (qoc 86) := by decide +kernel
noncomputable def n_86_0 (c : qV) : qF := (sF c [(.aload_n 0, 1, 0, 0, 0), (.getfield 17, 3, 11, 2, 2), (.iload_n 1, 1, 0, 0, 0), (.iaload, 1, 0, 0, 0), (.istore_n 3, 1, 0, 0, 0), (.aload_n 0, 1, 0, 0, 0), (.getfield 17, 3, 11, 2, 2), (.iload_n 1, 1, 0, 0, 0), (.iload_n 2, 1, 0, 0, 0), (.iastore, 1, 0, 0, 0), (.aload_n 0, 1, 0, 0, 0), (.iload_n 3, 1, 0, 0, 0), (.invokevirtual 133, 3, 73, 1, 11)] rI)
theorem s_86_0 {G : qG} {d : Nat} {c : qV} (hc : qvok G d c) : Snd G (d + 1) 86 0 (n_86_0 c) := (sF_snd qk_86 hy_86 hc (rI_snd (pc := 19) qk_86 (by decide +kernel) (by decide +kernel)) _ 0 (by decide +kernel))
/-! CheesePostModel.height(II)I -/
theorem hy_87 : (qnm 87).cls = qocn (qoc 87) := by decide +kernel
noncomputable def n_87_33 (c : qV) : qF := rI
theorem s_87_33 {G : qG} {d : Nat} {c : qV} (hc : qvok G d c) : Snd G (d + 1) 87 33 (n_87_33 c) := (rI_snd (pc := 33) qk_87 (by decide +kernel) (by decide +kernel))
noncomputable def n_87_28 (c : qV) : qF := (sF c [(.aload_n 0, 1, 0, 0, 0), (.iconst (-1), 1, 0, 0, 0), (.invokevirtual 129, 3, 72, 1, 11)] (n_87_33 c))
theorem s_87_28 {G : qG} {d : Nat} {c : qV} (hc : qvok G d c) : Snd G (d + 1) 87 28 (n_87_28 c) := (sF_snd qk_87 hy_87 hc (s_87_33 hc) _ 28 (by decide +kernel))
noncomputable def n_87_0 (c : qV) : qF := (sF c [(.iload_n 1, 1, 0, 0, 0), (.invokestatic 139, 3, 79, 1, 0)] (bF (.ifCond .eq 24, 3, 28, 0, 0)
 (n_87_28 c)
 (sF c [(.iload_n 2, 1, 0, 0, 0), (.iconst 0, 1, 0, 0, 0), (.bipush 99, 2, 0, 0, 0), (.invokestatic 125, 3, 71, 3, 0)] (bF (.ifCond .eq 14, 3, 28, 0, 0)
 (n_87_28 c)
 (sF c [(.aload_n 0, 1, 0, 0, 0), (.iconst 0, 1, 0, 0, 0), (.iload_n 1, 1, 0, 0, 0), (.iadd, 1, 0, 0, 0), (.iload_n 2, 1, 0, 0, 0), (.invokevirtual 143, 3, 86, 2, 11), (.goto 8, 3, 33, 0, 0)] (n_87_33 c))))))
theorem s_87_0 {G : qG} {d : Nat} {c : qV} (hc : qvok G d c) : Snd G (d + 1) 87 0 (n_87_0 c) := (sF_snd qk_87 hy_87 hc (bF_snd (pc := 4) qk_87 (by decide +kernel)
 (s_87_28 hc)
 (sF_snd qk_87 hy_87 hc (bF_snd (pc := 14) qk_87 (by decide +kernel)
 (s_87_28 hc)
 (sF_snd qk_87 hy_87 hc (s_87_33 hc) _ 17 (by decide +kernel))) _ 7 (by decide +kernel))) _ 0 (by decide +kernel))
/-! CheesePostModel.fence(II)I -/
theorem hy_88 : (qnm 88).cls = qocn (qoc 88) := by decide +kernel
noncomputable def n_88_34 (c : qV) : qF := rI
theorem s_88_34 {G : qG} {d : Nat} {c : qV} (hc : qvok G d c) : Snd G (d + 1) 88 34 (n_88_34 c) := (rI_snd (pc := 34) qk_88 (by decide +kernel) (by decide +kernel))
noncomputable def n_88_29 (c : qV) : qF := (sF c [(.aload_n 0, 1, 0, 0, 0), (.iconst (-1), 1, 0, 0, 0), (.invokevirtual 129, 3, 72, 1, 11)] (n_88_34 c))
theorem s_88_29 {G : qG} {d : Nat} {c : qV} (hc : qvok G d c) : Snd G (d + 1) 88 29 (n_88_29 c) := (sF_snd qk_88 hy_88 hc (s_88_34 hc) _ 29 (by decide +kernel))
noncomputable def n_88_0 (c : qV) : qF := (sF c [(.iload_n 1, 1, 0, 0, 0), (.invokestatic 139, 3, 79, 1, 0)] (bF (.ifCond .eq 25, 3, 29, 0, 0)
 (n_88_29 c)
 (sF c [(.iload_n 2, 1, 0, 0, 0), (.iconst 0, 1, 0, 0, 0), (.bipush 9, 2, 0, 0, 0), (.invokestatic 125, 3, 71, 3, 0)] (bF (.ifCond .eq 15, 3, 29, 0, 0)
 (n_88_29 c)
 (sF c [(.aload_n 0, 1, 0, 0, 0), (.bipush 80, 2, 0, 0, 0), (.iload_n 1, 1, 0, 0, 0), (.iadd, 1, 0, 0, 0), (.iload_n 2, 1, 0, 0, 0), (.invokevirtual 143, 3, 86, 2, 11), (.goto 8, 3, 34, 0, 0)] (n_88_34 c))))))
theorem s_88_0 {G : qG} {d : Nat} {c : qV} (hc : qvok G d c) : Snd G (d + 1) 88 0 (n_88_0 c) := (sF_snd qk_88 hy_88 hc (bF_snd (pc := 4) qk_88 (by decide +kernel)
 (s_88_29 hc)
 (sF_snd qk_88 hy_88 hc (bF_snd (pc := 14) qk_88 (by decide +kernel)
 (s_88_29 hc)
 (sF_snd qk_88 hy_88 hc (s_88_34 hc) _ 17 (by decide +kernel))) _ 7 (by decide +kernel))) _ 0 (by decide +kernel))
/-! CheesePostModel.house(II)I -/
theorem hy_89 : (qnm 89).cls = qocn (qoc 89) := by decide +kernel
noncomputable def n_89_17 (c : qV) : qF := (sF c [(.aload_n 0, 1, 0, 0, 0), (.iconst (-1), 1, 0, 0, 0), (.invokevirtual 129, 3, 72, 1, 11)] rI)
theorem s_89_17 {G : qG} {d : Nat} {c : qV} (hc : qvok G d c) : Snd G (d + 1) 89 17 (n_89_17 c) := (sF_snd qk_89 hy_89 hc (rI_snd (pc := 22) qk_89 (by decide +kernel) (by decide +kernel)) _ 17 (by decide +kernel))
noncomputable def n_89_120 (c : qV) : qF := (sF c [(.aload_n 0, 1, 0, 0, 0), (.getfield 17, 3, 11, 2, 2), (.sipush 264, 3, 0, 0, 0), (.dup2, 1, 0, 0, 0), (.iaload, 1, 0, 0, 0), (.iconst 1, 1, 0, 0, 0), (.iadd, 1, 0, 0, 0), (.iastore, 1, 0, 0, 0), (.aload_n 0, 1, 0, 0, 0), (.iload_n 3, 1, 0, 0, 0), (.invokevirtual 133, 3, 73, 1, 11)] rI)
theorem s_89_120 {G : qG} {d : Nat} {c : qV} (hc : qvok G d c) : Snd G (d + 1) 89 120 (n_89_120 c) := (sF_snd qk_89 hy_89 hc (rI_snd (pc := 137) qk_89 (by decide +kernel) (by decide +kernel)) _ 120 (by decide +kernel))
noncomputable def f_89_92 (c : qV) (K92 : qF) : qF := (sF c [(.iload 4, 2, 0, 0, 0), (.iconst 5, 1, 0, 0, 0)] (bF (.if_icmp .ge 25, 3, 120, 0, 0)
 (n_89_120 c)
 (sF c [(.aload_n 0, 1, 0, 0, 0), (.getfield 17, 3, 11, 2, 2), (.sipush 160, 3, 0, 0, 0), (.iconst 5, 1, 0, 0, 0), (.iload_n 3, 1, 0, 0, 0), (.imul, 1, 0, 0, 0), (.iadd, 1, 0, 0, 0), (.iload 4, 2, 0, 0, 0), (.iadd, 1, 0, 0, 0), (.iconst 0, 1, 0, 0, 0), (.iastore, 1, 0, 0, 0), (.iinc 4 1, 3, 0, 0, 0), (.goto (-25), 3, 92, 0, 0)] K92)))
noncomputable def n_89_92 (c : qV) : qF := lp (f_89_92 c) qLF
theorem s_89_92 {G : qG} {d : Nat} {c : qV} (hc : qvok G d c) : Snd G (d + 1) 89 92 (n_89_92 c) := lp_snd (fun K92 h92 => (sF_snd qk_89 hy_89 hc (bF_snd (pc := 95) qk_89 (by decide +kernel)
 (s_89_120 hc)
 (sF_snd qk_89 hy_89 hc h92 _ 98 (by decide +kernel))) _ 92 (by decide +kernel))) _
noncomputable def n_89_0 (c : qV) : qF := (sF c [(.iload_n 1, 1, 0, 0, 0), (.invokestatic 139, 3, 79, 1, 0)] (bF (.ifCond .eq 13, 3, 17, 0, 0)
 (n_89_17 c)
 (sF c [(.iload_n 2, 1, 0, 0, 0), (.iconst 0, 1, 0, 0, 0), (.bipush 9, 2, 0, 0, 0), (.invokestatic 125, 3, 71, 3, 0)] (bF (.ifCond .ne 9, 3, 23, 0, 0)
 (sF c [(.aload_n 0, 1, 0, 0, 0), (.iload_n 1, 1, 0, 0, 0), (.invokevirtual 147, 3, 84, 1, 11), (.iconst (-1), 1, 0, 0, 0)] (bF (.if_icmp .eq 10, 3, 39, 0, 0)
 (sF c [(.aload_n 0, 1, 0, 0, 0), (.getfield 17, 3, 11, 2, 2), (.sipush 264, 3, 0, 0, 0), (.iaload, 1, 0, 0, 0), (.istore_n 3, 1, 0, 0, 0), (.iload_n 3, 1, 0, 0, 0), (.bipush 8, 2, 0, 0, 0)] (bF (.if_icmp .ne 10, 3, 61, 0, 0)
 (sF c [(.aload_n 0, 1, 0, 0, 0), (.getfield 17, 3, 11, 2, 2), (.sipush 160, 3, 0, 0, 0), (.iconst 5, 1, 0, 0, 0), (.iload_n 3, 1, 0, 0, 0), (.imul, 1, 0, 0, 0), (.iadd, 1, 0, 0, 0), (.iload_n 1, 1, 0, 0, 0), (.iastore, 1, 0, 0, 0), (.aload_n 0, 1, 0, 0, 0), (.getfield 17, 3, 11, 2, 2), (.sipush 160, 3, 0, 0, 0), (.iconst 5, 1, 0, 0, 0), (.iload_n 3, 1, 0, 0, 0), (.imul, 1, 0, 0, 0), (.iadd, 1, 0, 0, 0), (.iconst 1, 1, 0, 0, 0), (.iadd, 1, 0, 0, 0), (.iload_n 2, 1, 0, 0, 0), (.iastore, 1, 0, 0, 0), (.iconst 2, 1, 0, 0, 0), (.istore 4, 2, 0, 0, 0)] (n_89_92 c))
 (sF c [(.aload_n 0, 1, 0, 0, 0), (.bipush (-5), 2, 0, 0, 0), (.invokevirtual 129, 3, 72, 1, 11)] rI)))
 (sF c [(.aload_n 0, 1, 0, 0, 0), (.bipush (-3), 2, 0, 0, 0), (.invokevirtual 129, 3, 72, 1, 11)] rI)))
 (n_89_17 c)))))
theorem s_89_0 {G : qG} {d : Nat} {c : qV} (hc : qvok G d c) : Snd G (d + 1) 89 0 (n_89_0 c) := (sF_snd qk_89 hy_89 hc (bF_snd (pc := 4) qk_89 (by decide +kernel)
 (s_89_17 hc)
 (sF_snd qk_89 hy_89 hc (bF_snd (pc := 14) qk_89 (by decide +kernel)
 (sF_snd qk_89 hy_89 hc (bF_snd (pc := 29) qk_89 (by decide +kernel)
 (sF_snd qk_89 hy_89 hc (bF_snd (pc := 51) qk_89 (by decide +kernel)
 (sF_snd qk_89 hy_89 hc (s_89_92 hc) _ 61 (by decide +kernel))
 (sF_snd qk_89 hy_89 hc (rI_snd (pc := 60) qk_89 (by decide +kernel) (by decide +kernel)) _ 54 (by decide +kernel))) _ 39 (by decide +kernel))
 (sF_snd qk_89 hy_89 hc (rI_snd (pc := 38) qk_89 (by decide +kernel) (by decide +kernel)) _ 32 (by decide +kernel))) _ 23 (by decide +kernel))
 (s_89_17 hc)) _ 7 (by decide +kernel))) _ 0 (by decide +kernel))
/-! CheesePostModel.dairy(I)I -/
theorem hy_90 : (qnm 90).cls = qocn (qoc 90) := by decide +kernel
noncomputable def n_90_0 (c : qV) : qF := (sF c [(.iload_n 1, 1, 0, 0, 0), (.invokestatic 139, 3, 79, 1, 0)] (bF (.ifCond .ne 9, 3, 13, 0, 0)
 (sF c [(.aload_n 0, 1, 0, 0, 0), (.getfield 17, 3, 11, 2, 2), (.sipush 265, 3, 0, 0, 0), (.iaload, 1, 0, 0, 0), (.istore_n 2, 1, 0, 0, 0), (.iload_n 2, 1, 0, 0, 0), (.iconst 4, 1, 0, 0, 0)] (bF (.if_icmp .ne 10, 3, 34, 0, 0)
 (sF c [(.aload_n 0, 1, 0, 0, 0), (.getfield 17, 3, 11, 2, 2), (.sipush 200, 3, 0, 0, 0), (.iload_n 2, 1, 0, 0, 0), (.iadd, 1, 0, 0, 0), (.iload_n 1, 1, 0, 0, 0), (.iastore, 1, 0, 0, 0), (.aload_n 0, 1, 0, 0, 0), (.getfield 17, 3, 11, 2, 2), (.sipush 265, 3, 0, 0, 0), (.dup2, 1, 0, 0, 0), (.iaload, 1, 0, 0, 0), (.iconst 1, 1, 0, 0, 0), (.iadd, 1, 0, 0, 0), (.iastore, 1, 0, 0, 0), (.aload_n 0, 1, 0, 0, 0), (.iload_n 2, 1, 0, 0, 0), (.invokevirtual 133, 3, 73, 1, 11)] rI)
 (sF c [(.aload_n 0, 1, 0, 0, 0), (.bipush (-5), 2, 0, 0, 0), (.invokevirtual 129, 3, 72, 1, 11)] rI)))
 (sF c [(.aload_n 0, 1, 0, 0, 0), (.iconst (-1), 1, 0, 0, 0), (.invokevirtual 129, 3, 72, 1, 11)] rI)))
theorem s_90_0 {G : qG} {d : Nat} {c : qV} (hc : qvok G d c) : Snd G (d + 1) 90 0 (n_90_0 c) := (sF_snd qk_90 hy_90 hc (bF_snd (pc := 4) qk_90 (by decide +kernel)
 (sF_snd qk_90 hy_90 hc (bF_snd (pc := 24) qk_90 (by decide +kernel)
 (sF_snd qk_90 hy_90 hc (rI_snd (pc := 62) qk_90 (by decide +kernel) (by decide +kernel)) _ 34 (by decide +kernel))
 (sF_snd qk_90 hy_90 hc (rI_snd (pc := 33) qk_90 (by decide +kernel) (by decide +kernel)) _ 27 (by decide +kernel))) _ 13 (by decide +kernel))
 (sF_snd qk_90 hy_90 hc (rI_snd (pc := 12) qk_90 (by decide +kernel) (by decide +kernel)) _ 7 (by decide +kernel))) _ 0 (by decide +kernel))
/-! CheesePostModel.wheel(II)I -/
theorem hy_91 : (qnm 91).cls = qocn (qoc 91) := by decide +kernel
noncomputable def n_91_20 (c : qV) : qF := (sF c [(.aload_n 0, 1, 0, 0, 0), (.iconst (-1), 1, 0, 0, 0), (.invokevirtual 129, 3, 72, 1, 11)] rI)
theorem s_91_20 {G : qG} {d : Nat} {c : qV} (hc : qvok G d c) : Snd G (d + 1) 91 20 (n_91_20 c) := (sF_snd qk_91 hy_91 hc (rI_snd (pc := 25) qk_91 (by decide +kernel) (by decide +kernel)) _ 20 (by decide +kernel))
noncomputable def n_91_0 (c : qV) : qF := (sF c [(.iload_n 1, 1, 0, 0, 0), (.iconst 1, 1, 0, 0, 0), (.bipush 9, 2, 0, 0, 0), (.invokestatic 125, 3, 71, 3, 0)] (bF (.ifCond .eq 13, 3, 20, 0, 0)
 (n_91_20 c)
 (sF c [(.iload_n 2, 1, 0, 0, 0), (.iconst 0, 1, 0, 0, 0), (.bipush 9, 2, 0, 0, 0), (.invokestatic 125, 3, 71, 3, 0)] (bF (.ifCond .ne 9, 3, 26, 0, 0)
 (sF c [(.aload_n 0, 1, 0, 0, 0), (.getfield 17, 3, 11, 2, 2), (.sipush 266, 3, 0, 0, 0), (.iaload, 1, 0, 0, 0), (.istore_n 3, 1, 0, 0, 0), (.iload_n 3, 1, 0, 0, 0), (.bipush 8, 2, 0, 0, 0)] (bF (.if_icmp .ne 10, 3, 48, 0, 0)
 (sF c [(.aload_n 0, 1, 0, 0, 0), (.getfield 17, 3, 11, 2, 2), (.sipush 204, 3, 0, 0, 0), (.iconst 3, 1, 0, 0, 0), (.iload_n 3, 1, 0, 0, 0), (.imul, 1, 0, 0, 0), (.iadd, 1, 0, 0, 0), (.iload_n 1, 1, 0, 0, 0), (.iastore, 1, 0, 0, 0), (.aload_n 0, 1, 0, 0, 0), (.getfield 17, 3, 11, 2, 2), (.sipush 204, 3, 0, 0, 0), (.iconst 3, 1, 0, 0, 0), (.iload_n 3, 1, 0, 0, 0), (.imul, 1, 0, 0, 0), (.iadd, 1, 0, 0, 0), (.iconst 1, 1, 0, 0, 0), (.iadd, 1, 0, 0, 0), (.iload_n 2, 1, 0, 0, 0), (.iastore, 1, 0, 0, 0), (.aload_n 0, 1, 0, 0, 0), (.getfield 17, 3, 11, 2, 2), (.sipush 204, 3, 0, 0, 0), (.iconst 3, 1, 0, 0, 0), (.iload_n 3, 1, 0, 0, 0), (.imul, 1, 0, 0, 0), (.iadd, 1, 0, 0, 0), (.iconst 2, 1, 0, 0, 0), (.iadd, 1, 0, 0, 0), (.iconst 0, 1, 0, 0, 0), (.iastore, 1, 0, 0, 0), (.aload_n 0, 1, 0, 0, 0), (.getfield 17, 3, 11, 2, 2), (.sipush 266, 3, 0, 0, 0), (.dup2, 1, 0, 0, 0), (.iaload, 1, 0, 0, 0), (.iconst 1, 1, 0, 0, 0), (.iadd, 1, 0, 0, 0), (.iastore, 1, 0, 0, 0), (.aload_n 0, 1, 0, 0, 0), (.iload_n 3, 1, 0, 0, 0), (.invokevirtual 133, 3, 73, 1, 11)] rI)
 (sF c [(.aload_n 0, 1, 0, 0, 0), (.bipush (-5), 2, 0, 0, 0), (.invokevirtual 129, 3, 72, 1, 11)] rI)))
 (n_91_20 c)))))
theorem s_91_0 {G : qG} {d : Nat} {c : qV} (hc : qvok G d c) : Snd G (d + 1) 91 0 (n_91_0 c) := (sF_snd qk_91 hy_91 hc (bF_snd (pc := 7) qk_91 (by decide +kernel)
 (s_91_20 hc)
 (sF_snd qk_91 hy_91 hc (bF_snd (pc := 17) qk_91 (by decide +kernel)
 (sF_snd qk_91 hy_91 hc (bF_snd (pc := 38) qk_91 (by decide +kernel)
 (sF_snd qk_91 hy_91 hc (rI_snd (pc := 108) qk_91 (by decide +kernel) (by decide +kernel)) _ 48 (by decide +kernel))
 (sF_snd qk_91 hy_91 hc (rI_snd (pc := 47) qk_91 (by decide +kernel) (by decide +kernel)) _ 41 (by decide +kernel))) _ 26 (by decide +kernel))
 (s_91_20 hc)) _ 10 (by decide +kernel))) _ 0 (by decide +kernel))
/-! CheesePostModel.letter(II)I -/
theorem hy_92 : (qnm 92).cls = qocn (qoc 92) := by decide +kernel
noncomputable def n_92_0 (c : qV) : qF := (sF c [(.iload_n 2, 1, 0, 0, 0), (.iconst 1, 1, 0, 0, 0), (.bipush 99, 2, 0, 0, 0), (.invokestatic 125, 3, 71, 3, 0)] (bF (.ifCond .ne 9, 3, 16, 0, 0)
 (sF c [(.aload_n 0, 1, 0, 0, 0), (.iload_n 1, 1, 0, 0, 0), (.invokevirtual 150, 3, 81, 1, 11)] (bF (.ifCond .ne 10, 3, 31, 0, 0)
 (sF c [(.aload_n 0, 1, 0, 0, 0), (.getfield 17, 3, 11, 2, 2), (.sipush 267, 3, 0, 0, 0), (.iaload, 1, 0, 0, 0), (.istore_n 3, 1, 0, 0, 0), (.iload_n 3, 1, 0, 0, 0), (.bipush 8, 2, 0, 0, 0)] (bF (.if_icmp .ne 10, 3, 53, 0, 0)
 (sF c [(.aload_n 0, 1, 0, 0, 0), (.getfield 17, 3, 11, 2, 2), (.sipush 228, 3, 0, 0, 0), (.iconst 2, 1, 0, 0, 0), (.iload_n 3, 1, 0, 0, 0), (.imul, 1, 0, 0, 0), (.iadd, 1, 0, 0, 0), (.iload_n 1, 1, 0, 0, 0), (.iastore, 1, 0, 0, 0), (.aload_n 0, 1, 0, 0, 0), (.getfield 17, 3, 11, 2, 2), (.sipush 228, 3, 0, 0, 0), (.iconst 2, 1, 0, 0, 0), (.iload_n 3, 1, 0, 0, 0), (.imul, 1, 0, 0, 0), (.iadd, 1, 0, 0, 0), (.iconst 1, 1, 0, 0, 0), (.iadd, 1, 0, 0, 0), (.iload_n 2, 1, 0, 0, 0), (.iastore, 1, 0, 0, 0), (.aload_n 0, 1, 0, 0, 0), (.getfield 17, 3, 11, 2, 2), (.sipush 267, 3, 0, 0, 0), (.dup2, 1, 0, 0, 0), (.iaload, 1, 0, 0, 0), (.iconst 1, 1, 0, 0, 0), (.iadd, 1, 0, 0, 0), (.iastore, 1, 0, 0, 0), (.aload_n 0, 1, 0, 0, 0), (.iload_n 3, 1, 0, 0, 0), (.invokevirtual 133, 3, 73, 1, 11)] rI)
 (sF c [(.aload_n 0, 1, 0, 0, 0), (.bipush (-5), 2, 0, 0, 0), (.invokevirtual 129, 3, 72, 1, 11)] rI)))
 (sF c [(.aload_n 0, 1, 0, 0, 0), (.bipush (-2), 2, 0, 0, 0), (.invokevirtual 129, 3, 72, 1, 11)] rI)))
 (sF c [(.aload_n 0, 1, 0, 0, 0), (.iconst (-1), 1, 0, 0, 0), (.invokevirtual 129, 3, 72, 1, 11)] rI)))
theorem s_92_0 {G : qG} {d : Nat} {c : qV} (hc : qvok G d c) : Snd G (d + 1) 92 0 (n_92_0 c) := (sF_snd qk_92 hy_92 hc (bF_snd (pc := 7) qk_92 (by decide +kernel)
 (sF_snd qk_92 hy_92 hc (bF_snd (pc := 21) qk_92 (by decide +kernel)
 (sF_snd qk_92 hy_92 hc (bF_snd (pc := 43) qk_92 (by decide +kernel)
 (sF_snd qk_92 hy_92 hc (rI_snd (pc := 98) qk_92 (by decide +kernel) (by decide +kernel)) _ 53 (by decide +kernel))
 (sF_snd qk_92 hy_92 hc (rI_snd (pc := 52) qk_92 (by decide +kernel) (by decide +kernel)) _ 46 (by decide +kernel))) _ 31 (by decide +kernel))
 (sF_snd qk_92 hy_92 hc (rI_snd (pc := 30) qk_92 (by decide +kernel) (by decide +kernel)) _ 24 (by decide +kernel))) _ 16 (by decide +kernel))
 (sF_snd qk_92 hy_92 hc (rI_snd (pc := 15) qk_92 (by decide +kernel) (by decide +kernel)) _ 10 (by decide +kernel))) _ 0 (by decide +kernel))
/-! CheesePostModel.goAll(I)I -/
theorem hy_93 : (qnm 93).cls = qocn (qoc 93) := by decide +kernel
noncomputable def n_93_0 (c : qV) : qF := (sF c [(.aload_n 0, 1, 0, 0, 0), (.getfield 17, 3, 11, 2, 2), (.iload_n 1, 1, 0, 0, 0), (.iaload, 1, 0, 0, 0), (.istore_n 2, 1, 0, 0, 0), (.aload_n 0, 1, 0, 0, 0), (.getfield 17, 3, 11, 2, 2), (.iload_n 1, 1, 0, 0, 0), (.iconst 0, 1, 0, 0, 0), (.iastore, 1, 0, 0, 0), (.iload_n 2, 1, 0, 0, 0)] rI)
theorem s_93_0 {G : qG} {d : Nat} {c : qV} (hc : qvok G d c) : Snd G (d + 1) 93 0 (n_93_0 c) := (sF_snd qk_93 hy_93 hc (rI_snd (pc := 15) qk_93 (by decide +kernel) (by decide +kernel)) _ 0 (by decide +kernel))
/-! CheesePostModel.burn()I -/
theorem hy_94 : (qnm 94).cls = qocn (qoc 94) := by decide +kernel
noncomputable def n_94_0 (c : qV) : qF := (sF c [(.aload_n 0, 1, 0, 0, 0), (.sipush 267, 3, 0, 0, 0), (.invokevirtual 153, 3, 93, 1, 11)] rI)
theorem s_94_0 {G : qG} {d : Nat} {c : qV} (hc : qvok G d c) : Snd G (d + 1) 94 0 (n_94_0 c) := (sF_snd qk_94 hy_94 hc (rI_snd (pc := 7) qk_94 (by decide +kernel) (by decide +kernel)) _ 0 (by decide +kernel))
