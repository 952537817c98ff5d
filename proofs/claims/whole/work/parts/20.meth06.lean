/-! CheesePost$Sends.launch(I)Z -/
theorem hy_303 : (qnm 303).cls = qocn (qoc 303) := by decide +kernel
noncomputable def n_303_169 (c : qV) : qF := (sF c [(.aload_n 0, 1, 0, 0, 0), (.getfield 36, 3, 9, 0, 2), (.getfield 89, 3, 1, 3, 2), (.iload_n 1, 1, 0, 0, 0), (.invokestatic 91, 3, 62, 1, 0), (.iconst 1, 1, 0, 0, 0), (.iastore, 1, 0, 0, 0), (.iload_n 3, 1, 0, 0, 0)] rZ)
theorem s_303_169 {G : qG} {d : Nat} {c : qV} (hc : qvok G d c) : Snd G (d + 1) 303 169 (n_303_169 c) := (sF_snd qk_303 hy_303 hc (rZ_snd (pc := 183) qk_303 (by decide +kernel) (by decide +kernel)) _ 169 (by decide +kernel))
noncomputable def f_303_129 (c : qV) (K129 : qF) : qF := (sF c [(.iload 4, 2, 0, 0, 0), (.aload_n 0, 1, 0, 0, 0), (.getfield 40, 3, 9, 1, 2), (.getfield 81, 3, 8, 7, 0)] (bF (.if_icmp .ge 31, 3, 169, 0, 0)
 (n_303_169 c)
 (sF c [(.aload_n 0, 1, 0, 0, 0), (.getfield 36, 3, 9, 0, 2), (.getfield 63, 3, 1, 0, 2), (.getfield 84, 3, 6, 1, 2), (.aload_n 0, 1, 0, 0, 0), (.getfield 40, 3, 9, 1, 2), (.getfield 86, 3, 8, 1, 2), (.iload 4, 2, 0, 0, 0), (.iaload, 1, 0, 0, 0), (.iconst 0, 1, 0, 0, 0), (.iastore, 1, 0, 0, 0), (.iinc 4 1, 3, 0, 0, 0), (.goto (-37), 3, 129, 0, 0)] K129)))
noncomputable def n_303_129 (c : qV) : qF := lp (f_303_129 c) qLF
theorem s_303_129 {G : qG} {d : Nat} {c : qV} (hc : qvok G d c) : Snd G (d + 1) 303 129 (n_303_129 c) := lp_snd (fun K129 h129 => (sF_snd qk_303 hy_303 hc (bF_snd (pc := 138) qk_303 (by decide +kernel)
 (s_303_169 hc)
 (sF_snd qk_303 hy_303 hc h129 _ 141 (by decide +kernel))) _ 129 (by decide +kernel))) _
noncomputable def n_303_126 (c : qV) : qF := (sF c [(.iconst 0, 1, 0, 0, 0), (.istore 4, 2, 0, 0, 0)] (n_303_129 c))
theorem s_303_126 {G : qG} {d : Nat} {c : qV} (hc : qvok G d c) : Snd G (d + 1) 303 126 (n_303_126 c) := (sF_snd qk_303 hy_303 hc (s_303_129 hc) _ 126 (by decide +kernel))
noncomputable def n_303_48 (c : qV) : qF := (sF c [(.istore_n 3, 1, 0, 0, 0), (.iload_n 3, 1, 0, 0, 0)] (bF (.ifCond .eq 39, 3, 89, 0, 0)
 (sF c [(.iload_n 2, 1, 0, 0, 0)] (bF (.ifCond .eq 36, 3, 126, 0, 0)
 (n_303_126 c)
 (sF c [(.aload_n 0, 1, 0, 0, 0), (.getfield 36, 3, 9, 0, 2), (.getfield 63, 3, 1, 0, 2), (.getfield 79, 3, 6, 6, 2), (.aload_n 0, 1, 0, 0, 0), (.getfield 36, 3, 9, 0, 2), (.getfield 63, 3, 1, 0, 2), (.getfield 73, 3, 6, 2, 2), (.aload_n 0, 1, 0, 0, 0), (.getfield 40, 3, 9, 1, 2), (.getfield 76, 3, 8, 4, 0), (.iaload, 1, 0, 0, 0), (.dup2, 1, 0, 0, 0), (.iaload, 1, 0, 0, 0), (.iconst 1, 1, 0, 0, 0), (.iadd, 1, 0, 0, 0), (.iastore, 1, 0, 0, 0)] (n_303_126 c))))
 (sF c [(.aload_n 0, 1, 0, 0, 0), (.getfield 36, 3, 9, 0, 2), (.getfield 63, 3, 1, 0, 2), (.getfield 69, 3, 6, 5, 2), (.aload_n 0, 1, 0, 0, 0), (.getfield 36, 3, 9, 0, 2), (.getfield 63, 3, 1, 0, 2), (.getfield 73, 3, 6, 2, 2), (.aload_n 0, 1, 0, 0, 0), (.getfield 40, 3, 9, 1, 2), (.getfield 76, 3, 8, 4, 0), (.iaload, 1, 0, 0, 0), (.dup2, 1, 0, 0, 0), (.iaload, 1, 0, 0, 0), (.iconst 1, 1, 0, 0, 0), (.iadd, 1, 0, 0, 0), (.iastore, 1, 0, 0, 0), (.goto 40, 3, 126, 0, 0)] (n_303_126 c))))
theorem s_303_48 {G : qG} {d : Nat} {c : qV} (hc : qvok G d c) : Snd G (d + 1) 303 48 (n_303_48 c) := (sF_snd qk_303 hy_303 hc (bF_snd (pc := 50) qk_303 (by decide +kernel)
 (sF_snd qk_303 hy_303 hc (bF_snd (pc := 90) qk_303 (by decide +kernel)
 (s_303_126 hc)
 (sF_snd qk_303 hy_303 hc (s_303_126 hc) _ 93 (by decide +kernel))) _ 89 (by decide +kernel))
 (sF_snd qk_303 hy_303 hc (s_303_126 hc) _ 53 (by decide +kernel))) _ 48 (by decide +kernel))
noncomputable def n_303_47 (c : qV) : qF := (sF c [(.iconst 0, 1, 0, 0, 0)] (n_303_48 c))
theorem s_303_47 {G : qG} {d : Nat} {c : qV} (hc : qvok G d c) : Snd G (d + 1) 303 47 (n_303_47 c) := (sF_snd qk_303 hy_303 hc (s_303_48 hc) _ 47 (by decide +kernel))
noncomputable def n_303_0 (c : qV) : qF := (sF c [(.aload_n 0, 1, 0, 0, 0), (.iload_n 1, 1, 0, 0, 0), (.invokevirtual 44, 3, 306, 1, 9), (.aload_n 0, 1, 0, 0, 0), (.getfield 40, 3, 9, 1, 2), (.iload_n 1, 1, 0, 0, 0), (.invokevirtual 48, 3, 291, 1, 8), (.aload_n 0, 1, 0, 0, 0), (.getfield 40, 3, 9, 1, 2), (.invokevirtual 53, 3, 293, 0, 8), (.aload_n 0, 1, 0, 0, 0), (.getfield 40, 3, 9, 1, 2), (.invokevirtual 56, 3, 297, 0, 8), (.istore_n 2, 1, 0, 0, 0), (.aload_n 0, 1, 0, 0, 0), (.getfield 40, 3, 9, 1, 2), (.getfield 60, 3, 8, 8, 0), (.iconst 2, 1, 0, 0, 0)] (bF (.if_icmp .ne 11, 3, 47, 0, 0)
 (n_303_47 c)
 (sF c [(.iload_n 2, 1, 0, 0, 0)] (bF (.ifCond .ne 7, 3, 47, 0, 0)
 (n_303_47 c)
 (sF c [(.iconst 1, 1, 0, 0, 0), (.goto 4, 3, 48, 0, 0)] (n_303_48 c))))))
theorem s_303_0 {G : qG} {d : Nat} {c : qV} (hc : qvok G d c) : Snd G (d + 1) 303 0 (n_303_0 c) := (sF_snd qk_303 hy_303 hc (bF_snd (pc := 36) qk_303 (by decide +kernel)
 (s_303_47 hc)
 (sF_snd qk_303 hy_303 hc (bF_snd (pc := 40) qk_303 (by decide +kernel)
 (s_303_47 hc)
 (sF_snd qk_303 hy_303 hc (s_303_48 hc) _ 43 (by decide +kernel))) _ 39 (by decide +kernel))) _ 0 (by decide +kernel))
/-! CheesePost$Sends.endOfLatest()I -/
theorem hy_304 : (qnm 304).cls = qocn (qoc 304) := by decide +kernel
noncomputable def n_304_0 (c : qV) : qF := (sF c [(.aload_n 0, 1, 0, 0, 0), (.getfield 40, 3, 9, 1, 2), (.getfield 76, 3, 8, 4, 0)] rI)
theorem s_304_0 {G : qG} {d : Nat} {c : qV} (hc : qvok G d c) : Snd G (d + 1) 304 0 (n_304_0 c) := (sF_snd qk_304 hy_304 hc (rI_snd (pc := 7) qk_304 (by decide +kernel) (by decide +kernel)) _ 0 (by decide +kernel))
/-! CheesePost$Sends.takeBack()I -/
theorem hy_305 : (qnm 305).cls = qocn (qoc 305) := by decide +kernel
noncomputable def n_305_0 (c : qV) : qF := (sF c [(.aload_n 0, 1, 0, 0, 0), (.aload_n 0, 1, 0, 0, 0), (.getfield 33, 3, 9, 8, 0), (.bipush 16, 2, 0, 0, 0), (.iadd, 1, 0, 0, 0), (.iconst 1, 1, 0, 0, 0), (.isub, 1, 0, 0, 0), (.bipush 16, 2, 0, 0, 0), (.irem, 1, 0, 0, 0), (.putfield 33, 3, 9, 8, 0), (.aload_n 0, 1, 0, 0, 0), (.dup, 1, 0, 0, 0), (.getfield 29, 3, 9, 7, 0), (.iconst 1, 1, 0, 0, 0), (.isub, 1, 0, 0, 0), (.putfield 29, 3, 9, 7, 0), (.aload_n 0, 1, 0, 0, 0), (.getfield 13, 3, 9, 2, 2), (.aload_n 0, 1, 0, 0, 0), (.getfield 33, 3, 9, 8, 0), (.aaload, 1, 0, 0, 0), (.iconst 0, 1, 0, 0, 0), (.aload_n 0, 1, 0, 0, 0), (.getfield 36, 3, 9, 0, 2), (.getfield 63, 3, 1, 0, 2), (.getfield 84, 3, 6, 1, 2), (.iconst 0, 1, 0, 0, 0), (.bipush 80, 2, 0, 0, 0), (.invokestatic 95, 3, 998, 5, 0), (.aload_n 0, 1, 0, 0, 0), (.getfield 16, 3, 9, 3, 2), (.aload_n 0, 1, 0, 0, 0), (.getfield 33, 3, 9, 8, 0), (.aaload, 1, 0, 0, 0), (.iconst 0, 1, 0, 0, 0), (.aload_n 0, 1, 0, 0, 0), (.getfield 36, 3, 9, 0, 2), (.getfield 89, 3, 1, 3, 2), (.iconst 0, 1, 0, 0, 0), (.bipush 8, 2, 0, 0, 0), (.invokestatic 95, 3, 998, 5, 0), (.aload_n 0, 1, 0, 0, 0), (.getfield 19, 3, 9, 4, 2), (.aload_n 0, 1, 0, 0, 0), (.getfield 33, 3, 9, 8, 0), (.aaload, 1, 0, 0, 0), (.iconst 0, 1, 0, 0, 0), (.aload_n 0, 1, 0, 0, 0), (.getfield 36, 3, 9, 0, 2), (.getfield 63, 3, 1, 0, 2), (.getfield 69, 3, 6, 5, 2), (.iconst 0, 1, 0, 0, 0), (.bipush 8, 2, 0, 0, 0), (.invokestatic 95, 3, 998, 5, 0), (.aload_n 0, 1, 0, 0, 0), (.getfield 22, 3, 9, 5, 2), (.aload_n 0, 1, 0, 0, 0), (.getfield 33, 3, 9, 8, 0), (.aaload, 1, 0, 0, 0), (.iconst 0, 1, 0, 0, 0), (.aload_n 0, 1, 0, 0, 0), (.getfield 36, 3, 9, 0, 2), (.getfield 63, 3, 1, 0, 2), (.getfield 79, 3, 6, 6, 2), (.iconst 0, 1, 0, 0, 0), (.bipush 8, 2, 0, 0, 0), (.invokestatic 95, 3, 998, 5, 0), (.aload_n 0, 1, 0, 0, 0), (.getfield 25, 3, 9, 6, 2), (.aload_n 0, 1, 0, 0, 0), (.getfield 33, 3, 9, 8, 0), (.iaload, 1, 0, 0, 0)] rI)
theorem s_305_0 {G : qG} {d : Nat} {c : qV} (hc : qvok G d c) : Snd G (d + 1) 305 0 (n_305_0 c) := (sF_snd qk_305 hy_305 hc (rI_snd (pc := 136) qk_305 (by decide +kernel) (by decide +kernel)) _ 0 (by decide +kernel))
/-! CheesePost$Sends.remember(I)V -/
theorem hy_306 : (qnm 306).cls = qocn (qoc 306) := by decide +kernel
noncomputable def n_306_0 (c : qV) : qF := (sF c [(.aload_n 0, 1, 0, 0, 0), (.getfield 36, 3, 9, 0, 2), (.getfield 63, 3, 1, 0, 2), (.getfield 84, 3, 6, 1, 2), (.iconst 0, 1, 0, 0, 0), (.aload_n 0, 1, 0, 0, 0), (.getfield 13, 3, 9, 2, 2), (.aload_n 0, 1, 0, 0, 0), (.getfield 33, 3, 9, 8, 0), (.aaload, 1, 0, 0, 0), (.iconst 0, 1, 0, 0, 0), (.bipush 80, 2, 0, 0, 0), (.invokestatic 95, 3, 998, 5, 0), (.aload_n 0, 1, 0, 0, 0), (.getfield 36, 3, 9, 0, 2), (.getfield 89, 3, 1, 3, 2), (.iconst 0, 1, 0, 0, 0), (.aload_n 0, 1, 0, 0, 0), (.getfield 16, 3, 9, 3, 2), (.aload_n 0, 1, 0, 0, 0), (.getfield 33, 3, 9, 8, 0), (.aaload, 1, 0, 0, 0), (.iconst 0, 1, 0, 0, 0), (.bipush 8, 2, 0, 0, 0), (.invokestatic 95, 3, 998, 5, 0), (.aload_n 0, 1, 0, 0, 0), (.getfield 36, 3, 9, 0, 2), (.getfield 63, 3, 1, 0, 2), (.getfield 69, 3, 6, 5, 2), (.iconst 0, 1, 0, 0, 0), (.aload_n 0, 1, 0, 0, 0), (.getfield 19, 3, 9, 4, 2), (.aload_n 0, 1, 0, 0, 0), (.getfield 33, 3, 9, 8, 0), (.aaload, 1, 0, 0, 0), (.iconst 0, 1, 0, 0, 0), (.bipush 8, 2, 0, 0, 0), (.invokestatic 95, 3, 998, 5, 0), (.aload_n 0, 1, 0, 0, 0), (.getfield 36, 3, 9, 0, 2), (.getfield 63, 3, 1, 0, 2), (.getfield 79, 3, 6, 6, 2), (.iconst 0, 1, 0, 0, 0), (.aload_n 0, 1, 0, 0, 0), (.getfield 22, 3, 9, 5, 2), (.aload_n 0, 1, 0, 0, 0), (.getfield 33, 3, 9, 8, 0), (.aaload, 1, 0, 0, 0), (.iconst 0, 1, 0, 0, 0), (.bipush 8, 2, 0, 0, 0), (.invokestatic 95, 3, 998, 5, 0), (.aload_n 0, 1, 0, 0, 0), (.getfield 25, 3, 9, 6, 2), (.aload_n 0, 1, 0, 0, 0), (.getfield 33, 3, 9, 8, 0), (.iload_n 1, 1, 0, 0, 0), (.iastore, 1, 0, 0, 0), (.aload_n 0, 1, 0, 0, 0), (.aload_n 0, 1, 0, 0, 0), (.getfield 33, 3, 9, 8, 0), (.iconst 1, 1, 0, 0, 0), (.iadd, 1, 0, 0, 0), (.bipush 16, 2, 0, 0, 0), (.irem, 1, 0, 0, 0), (.putfield 33, 3, 9, 8, 0), (.aload_n 0, 1, 0, 0, 0), (.aload_n 0, 1, 0, 0, 0), (.getfield 29, 3, 9, 7, 0), (.iconst 1, 1, 0, 0, 0), (.iadd, 1, 0, 0, 0), (.bipush 8, 2, 0, 0, 0), (.invokestatic 101, 3, 994, 2, 0), (.putfield 29, 3, 9, 7, 0)] rV)
theorem s_306_0 {G : qG} {d : Nat} {c : qV} (hc : qvok G d c) : Snd G (d + 1) 306 0 (n_306_0 c) := (sF_snd qk_306 hy_306 hc (rV_snd (pc := 139) qk_306 (by decide +kernel) (by decide +kernel)) _ 0 (by decide +kernel))
/-! CheesePost$Text.<init>(II)V -/
theorem hy_307 : (qnm 307).cls = qocn (qoc 307) := by decide +kernel
noncomputable def n_307_0 (c : qV) : qF := (sF c [(.aload_n 0, 1, 0, 0, 0), (.invokespecial 3, 3, 999, 0, 0), (.aload_n 0, 1, 0, 0, 0), (.iconst 0, 1, 0, 0, 0), (.putfield 9, 3, 10, 5, 0), (.aload_n 0, 1, 0, 0, 0), (.iconst 0, 1, 0, 0, 0), (.putfield 15, 3, 10, 6, 0), (.aload_n 0, 1, 0, 0, 0), (.iload_n 1, 1, 0, 0, 0), (.newarray .int, 2, 100, 0, 0), (.putfield 18, 3, 10, 0, 2), (.aload_n 0, 1, 0, 0, 0), (.iload_n 1, 1, 0, 0, 0), (.iconst 4, 1, 0, 0, 0), (.imul, 1, 0, 0, 0), (.newarray .int, 2, 100, 0, 0), (.putfield 22, 3, 10, 1, 2), (.aload_n 0, 1, 0, 0, 0), (.iload_n 1, 1, 0, 0, 0), (.newarray .int, 2, 100, 0, 0), (.putfield 25, 3, 10, 2, 2), (.aload_n 0, 1, 0, 0, 0), (.iload_n 1, 1, 0, 0, 0), (.newarray .int, 2, 100, 0, 0), (.putfield 28, 3, 10, 3, 2), (.aload_n 0, 1, 0, 0, 0), (.iload_n 2, 1, 0, 0, 0), (.newarray .int, 2, 100, 0, 0), (.putfield 31, 3, 10, 4, 2)] rV)
theorem s_307_0 {G : qG} {d : Nat} {c : qV} (hc : qvok G d c) : Snd G (d + 1) 307 0 (n_307_0 c) := (sF_snd qk_307 hy_307 hc (rV_snd (pc := 51) qk_307 (by decide +kernel) (by decide +kernel)) _ 0 (by decide +kernel))
/-! CheesePost$Text.clear()V -/
theorem hy_308 : (qnm 308).cls = qocn (qoc 308) := by decide +kernel
noncomputable def n_308_0 (c : qV) : qF := (sF c [(.aload_n 0, 1, 0, 0, 0), (.iconst 0, 1, 0, 0, 0), (.putfield 9, 3, 10, 5, 0), (.aload_n 0, 1, 0, 0, 0), (.iconst 0, 1, 0, 0, 0), (.putfield 15, 3, 10, 6, 0)] rV)
theorem s_308_0 {G : qG} {d : Nat} {c : qV} (hc : qvok G d c) : Snd G (d + 1) 308 0 (n_308_0 c) := (sF_snd qk_308 hy_308 hc (rV_snd (pc := 10) qk_308 (by decide +kernel) (by decide +kernel)) _ 0 (by decide +kernel))
/-! CheesePost$Text.add(I)V -/
theorem hy_309 : (qnm 309).cls = qocn (qoc 309) := by decide +kernel
noncomputable def n_309_52 (c : qV) : qF := rV
theorem s_309_52 {G : qG} {d : Nat} {c : qV} (hc : qvok G d c) : Snd G (d + 1) 309 52 (n_309_52 c) := (rV_snd (pc := 52) qk_309 (by decide +kernel) (by decide +kernel))
noncomputable def n_309_0 (c : qV) : qF := (sF c [(.aload_n 0, 1, 0, 0, 0), (.getfield 9, 3, 10, 5, 0), (.aload_n 0, 1, 0, 0, 0), (.getfield 18, 3, 10, 0, 2), (.arraylength, 1, 0, 0, 0)] (bF (.if_icmp .ge 43, 3, 52, 0, 0)
 (n_309_52 c)
 (sF c [(.aload_n 0, 1, 0, 0, 0), (.getfield 18, 3, 10, 0, 2), (.aload_n 0, 1, 0, 0, 0), (.getfield 9, 3, 10, 5, 0), (.iload_n 1, 1, 0, 0, 0), (.iastore, 1, 0, 0, 0), (.aload_n 0, 1, 0, 0, 0), (.getfield 25, 3, 10, 2, 2), (.aload_n 0, 1, 0, 0, 0), (.getfield 9, 3, 10, 5, 0), (.iconst (-1), 1, 0, 0, 0), (.iastore, 1, 0, 0, 0), (.aload_n 0, 1, 0, 0, 0), (.getfield 28, 3, 10, 3, 2), (.aload_n 0, 1, 0, 0, 0), (.getfield 9, 3, 10, 5, 0), (.iconst 1, 1, 0, 0, 0), (.iastore, 1, 0, 0, 0), (.aload_n 0, 1, 0, 0, 0), (.dup, 1, 0, 0, 0), (.getfield 9, 3, 10, 5, 0), (.iconst 1, 1, 0, 0, 0), (.iadd, 1, 0, 0, 0), (.putfield 9, 3, 10, 5, 0)] (n_309_52 c))))
theorem s_309_0 {G : qG} {d : Nat} {c : qV} (hc : qvok G d c) : Snd G (d + 1) 309 0 (n_309_0 c) := (sF_snd qk_309 hy_309 hc (bF_snd (pc := 9) qk_309 (by decide +kernel)
 (s_309_52 hc)
 (sF_snd qk_309 hy_309 hc (s_309_52 hc) _ 12 (by decide +kernel))) _ 0 (by decide +kernel))
/-! CheesePost$Text.emit(II)V -/
theorem hy_310 : (qnm 310).cls = qocn (qoc 310) := by decide +kernel
noncomputable def n_310_36 (c : qV) : qF := rV
theorem s_310_36 {G : qG} {d : Nat} {c : qV} (hc : qvok G d c) : Snd G (d + 1) 310 36 (n_310_36 c) := (rV_snd (pc := 36) qk_310 (by decide +kernel) (by decide +kernel))
noncomputable def n_310_0 (c : qV) : qF := (sF c [(.aload_n 0, 1, 0, 0, 0), (.getfield 15, 3, 10, 6, 0), (.aload_n 0, 1, 0, 0, 0), (.getfield 31, 3, 10, 4, 2), (.arraylength, 1, 0, 0, 0)] (bF (.if_icmp .ge 27, 3, 36, 0, 0)
 (n_310_36 c)
 (sF c [(.aload_n 0, 1, 0, 0, 0), (.getfield 31, 3, 10, 4, 2), (.aload_n 0, 1, 0, 0, 0), (.getfield 15, 3, 10, 6, 0), (.iload_n 1, 1, 0, 0, 0), (.iload_n 2, 1, 0, 0, 0), (.iconst 4, 1, 0, 0, 0), (.ishl, 1, 0, 0, 0), (.ior, 1, 0, 0, 0), (.iastore, 1, 0, 0, 0), (.aload_n 0, 1, 0, 0, 0), (.dup, 1, 0, 0, 0), (.getfield 15, 3, 10, 6, 0), (.iconst 1, 1, 0, 0, 0), (.iadd, 1, 0, 0, 0), (.putfield 15, 3, 10, 6, 0)] (n_310_36 c))))
theorem s_310_0 {G : qG} {d : Nat} {c : qV} (hc : qvok G d c) : Snd G (d + 1) 310 0 (n_310_0 c) := (sF_snd qk_310 hy_310 hc (bF_snd (pc := 9) qk_310 (by decide +kernel)
 (s_310_36 hc)
 (sF_snd qk_310 hy_310 hc (s_310_36 hc) _ 12 (by decide +kernel))) _ 0 (by decide +kernel))
/-! CheesePost$Text.settle(I)V -/
theorem hy_311 : (qnm 311).cls = qocn (qoc 311) := by decide +kernel
noncomputable def n_311_29 (c : qV) : qF := rV
theorem s_311_29 {G : qG} {d : Nat} {c : qV} (hc : qvok G d c) : Snd G (d + 1) 311 29 (n_311_29 c) := (rV_snd (pc := 29) qk_311 (by decide +kernel) (by decide +kernel))
noncomputable def n_311_0 (c : qV) : qF := (sF c [(.iload_n 1, 1, 0, 0, 0), (.iconst 0, 1, 0, 0, 0), (.aload_n 0, 1, 0, 0, 0), (.getfield 15, 3, 10, 6, 0), (.iconst 1, 1, 0, 0, 0), (.isub, 1, 0, 0, 0), (.invokestatic 34, 3, 57, 3, 0)] (bF (.ifCond .eq 18, 3, 29, 0, 0)
 (n_311_29 c)
 (sF c [(.aload_n 0, 1, 0, 0, 0), (.getfield 31, 3, 10, 4, 2), (.iload_n 1, 1, 0, 0, 0), (.dup2, 1, 0, 0, 0), (.iaload, 1, 0, 0, 0), (.aload_n 0, 1, 0, 0, 0), (.getfield 15, 3, 10, 6, 0), (.iconst 4, 1, 0, 0, 0), (.ishl, 1, 0, 0, 0), (.ior, 1, 0, 0, 0), (.iastore, 1, 0, 0, 0)] (n_311_29 c))))
theorem s_311_0 {G : qG} {d : Nat} {c : qV} (hc : qvok G d c) : Snd G (d + 1) 311 0 (n_311_0 c) := (sF_snd qk_311 hy_311 hc (bF_snd (pc := 11) qk_311 (by decide +kernel)
 (s_311_29 hc)
 (sF_snd qk_311 hy_311 hc (s_311_29 hc) _ 14 (by decide +kernel))) _ 0 (by decide +kernel))
/-! CheesePost$Text.trimmed()LCheesePost$Text; -/
theorem hy_312 : (qnm 312).cls = qocn (qoc 312) := by decide +kernel
noncomputable def n_312_0 (c : qV) : qF := (sF c [(.new 10, 3, 10, 7, 0), (.dup, 1, 0, 0, 0), (.aload_n 0, 1, 0, 0, 0), (.getfield 9, 3, 10, 5, 0), (.aload_n 0, 1, 0, 0, 0), (.getfield 15, 3, 10, 6, 0), (.invokespecial 38, 3, 307, 2, 0), (.astore_n 1, 1, 0, 0, 0), (.aload_n 0, 1, 0, 0, 0), (.getfield 18, 3, 10, 0, 2), (.iconst 0, 1, 0, 0, 0), (.aload_n 1, 1, 0, 0, 0), (.getfield 18, 3, 10, 0, 2), (.iconst 0, 1, 0, 0, 0), (.aload_n 0, 1, 0, 0, 0), (.getfield 9, 3, 10, 5, 0), (.invokestatic 41, 3, 998, 5, 0), (.aload_n 0, 1, 0, 0, 0), (.getfield 22, 3, 10, 1, 2), (.iconst 0, 1, 0, 0, 0), (.aload_n 1, 1, 0, 0, 0), (.getfield 22, 3, 10, 1, 2), (.iconst 0, 1, 0, 0, 0), (.aload_n 0, 1, 0, 0, 0), (.getfield 9, 3, 10, 5, 0), (.iconst 4, 1, 0, 0, 0), (.imul, 1, 0, 0, 0), (.invokestatic 41, 3, 998, 5, 0), (.aload_n 0, 1, 0, 0, 0), (.getfield 25, 3, 10, 2, 2), (.iconst 0, 1, 0, 0, 0), (.aload_n 1, 1, 0, 0, 0), (.getfield 25, 3, 10, 2, 2), (.iconst 0, 1, 0, 0, 0), (.aload_n 0, 1, 0, 0, 0), (.getfield 9, 3, 10, 5, 0), (.invokestatic 41, 3, 998, 5, 0), (.aload_n 0, 1, 0, 0, 0), (.getfield 28, 3, 10, 3, 2), (.iconst 0, 1, 0, 0, 0), (.aload_n 1, 1, 0, 0, 0), (.getfield 28, 3, 10, 3, 2), (.iconst 0, 1, 0, 0, 0), (.aload_n 0, 1, 0, 0, 0), (.getfield 9, 3, 10, 5, 0), (.invokestatic 41, 3, 998, 5, 0), (.aload_n 0, 1, 0, 0, 0), (.getfield 31, 3, 10, 4, 2), (.iconst 0, 1, 0, 0, 0), (.aload_n 1, 1, 0, 0, 0), (.getfield 31, 3, 10, 4, 2), (.iconst 0, 1, 0, 0, 0), (.aload_n 0, 1, 0, 0, 0), (.getfield 15, 3, 10, 6, 0), (.invokestatic 41, 3, 998, 5, 0), (.aload_n 1, 1, 0, 0, 0), (.aload_n 0, 1, 0, 0, 0), (.getfield 9, 3, 10, 5, 0), (.putfield 9, 3, 10, 5, 0), (.aload_n 1, 1, 0, 0, 0), (.aload_n 0, 1, 0, 0, 0), (.getfield 15, 3, 10, 6, 0), (.putfield 15, 3, 10, 6, 0), (.aload_n 1, 1, 0, 0, 0)] rA)
theorem s_312_0 {G : qG} {d : Nat} {c : qV} (hc : qvok G d c) : Snd G (d + 1) 312 0 (n_312_0 c) := (sF_snd qk_312 hy_312 hc (rA_snd (pc := 120) qk_312 (by decide +kernel) (by decide +kernel)) _ 0 (by decide +kernel))
/-! CheesePost$Text.tells(I)Z -/
theorem hy_313 : (qnm 313).cls = qocn (qoc 313) := by decide +kernel
noncomputable def n_313_28 (c : qV) : qF := (sF c [(.iconst 0, 1, 0, 0, 0)] rZ)
theorem s_313_28 {G : qG} {d : Nat} {c : qV} (hc : qvok G d c) : Snd G (d + 1) 313 28 (n_313_28 c) := (sF_snd qk_313 hy_313 hc (rZ_snd (pc := 29) qk_313 (by decide +kernel) (by decide +kernel)) _ 28 (by decide +kernel))
noncomputable def f_313_2 (c : qV) (K2 : qF) : qF := (sF c [(.iload_n 2, 1, 0, 0, 0), (.aload_n 0, 1, 0, 0, 0), (.getfield 9, 3, 10, 5, 0)] (bF (.if_icmp .ge 21, 3, 28, 0, 0)
 (n_313_28 c)
 (sF c [(.aload_n 0, 1, 0, 0, 0), (.getfield 18, 3, 10, 0, 2), (.iload_n 2, 1, 0, 0, 0), (.iaload, 1, 0, 0, 0), (.iload_n 1, 1, 0, 0, 0)] (bF (.if_icmp .ne 5, 3, 22, 0, 0)
 (sF c [(.iinc 2 1, 3, 0, 0, 0), (.goto (-23), 3, 2, 0, 0)] K2)
 (sF c [(.iconst 1, 1, 0, 0, 0)] rZ)))))
noncomputable def n_313_2 (c : qV) : qF := lp (f_313_2 c) qLF
theorem s_313_2 {G : qG} {d : Nat} {c : qV} (hc : qvok G d c) : Snd G (d + 1) 313 2 (n_313_2 c) := lp_snd (fun K2 h2 => (sF_snd qk_313 hy_313 hc (bF_snd (pc := 7) qk_313 (by decide +kernel)
 (s_313_28 hc)
 (sF_snd qk_313 hy_313 hc (bF_snd (pc := 17) qk_313 (by decide +kernel)
 (sF_snd qk_313 hy_313 hc h2 _ 22 (by decide +kernel))
 (sF_snd qk_313 hy_313 hc (rZ_snd (pc := 21) qk_313 (by decide +kernel) (by decide +kernel)) _ 20 (by decide +kernel))) _ 10 (by decide +kernel))) _ 2 (by decide +kernel))) _
noncomputable def n_313_0 (c : qV) : qF := (sF c [(.iconst 0, 1, 0, 0, 0), (.istore_n 2, 1, 0, 0, 0)] (n_313_2 c))
theorem s_313_0 {G : qG} {d : Nat} {c : qV} (hc : qvok G d c) : Snd G (d + 1) 313 0 (n_313_0 c) := (sF_snd qk_313 hy_313 hc (s_313_2 hc) _ 0 (by decide +kernel))
/-! CheesePost$Text.reckon(I[I[I)J -/
theorem hy_314 : (qnm 314).cls = qocn (qoc 314) := by decide +kernel
noncomputable def n_314_436 (c : qV) : qF := (sF c [(.ldc2_w 50, 3, 0, 0, -2000000000)] rL)
theorem s_314_436 {G : qG} {d : Nat} {c : qV} (hc : qvok G d c) : Snd G (d + 1) 314 436 (n_314_436 c) := (sF_snd qk_314 hy_314 hc (rL_snd (pc := 439) qk_314 (by decide +kernel) (by decide +kernel)) _ 436 (by decide +kernel))
noncomputable def n_314_67 (c : qV) : qF := (sF c [(.ldc2_w 50, 3, 0, 0, -2000000000)] rL)
theorem s_314_67 {G : qG} {d : Nat} {c : qV} (hc : qvok G d c) : Snd G (d + 1) 314 67 (n_314_67 c) := (sF_snd qk_314 hy_314 hc (rL_snd (pc := 70) qk_314 (by decide +kernel) (by decide +kernel)) _ 67 (by decide +kernel))
noncomputable def n_314_404 (c : qV) : qF := (sF c [(.ldc2_w 50, 3, 0, 0, -2000000000)] rL)
theorem s_314_404 {G : qG} {d : Nat} {c : qV} (hc : qvok G d c) : Snd G (d + 1) 314 404 (n_314_404 c) := (sF_snd qk_314 hy_314 hc (rL_snd (pc := 407) qk_314 (by decide +kernel) (by decide +kernel)) _ 404 (by decide +kernel))
noncomputable def n_314_430 (c : qV) (K17 : qF) : qF := (sF c [(.iinc 5 1, 3, 0, 0, 0), (.goto (-416), 3, 17, 0, 0)] K17)
theorem s_314_430 {G : qG} {d : Nat} {c : qV} (hc : qvok G d c) {K17 : qF} (h17 : Snd G (d + 1) 314 17 K17) : Snd G (d + 1) 314 430 (n_314_430 c K17) := (sF_snd qk_314 hy_314 hc h17 _ 430 (by decide +kernel))
noncomputable def n_314_386 (c : qV) (K17 : qF) : qF := (sF c [(.lload 12, 2, 0, 0, 0), (.ldc2_w 52, 3, 0, 0, 1000000000), (.lcmp, 1, 0, 0, 0)] (bF (.ifCond .gt 12, 3, 404, 0, 0)
 (n_314_404 c)
 (sF c [(.lload 12, 2, 0, 0, 0), (.ldc2_w 54, 3, 0, 0, -1000000000), (.lcmp, 1, 0, 0, 0)] (bF (.ifCond .ge 7, 3, 408, 0, 0)
 (sF c [(.iload 4, 2, 0, 0, 0), (.iconst 1, 1, 0, 0, 0), (.getstatic 47, 3, 3, 0, 0), (.iload 6, 2, 0, 0, 0), (.iaload, 1, 0, 0, 0), (.isub, 1, 0, 0, 0), (.iadd, 1, 0, 0, 0), (.istore 4, 2, 0, 0, 0), (.aload_n 3, 1, 0, 0, 0), (.iload 4, 2, 0, 0, 0), (.iconst 1, 1, 0, 0, 0), (.isub, 1, 0, 0, 0), (.lload 12, 2, 0, 0, 0), (.l2i, 1, 0, 0, 0), (.iastore, 1, 0, 0, 0)] (n_314_430 c K17))
 (n_314_404 c)))))
theorem s_314_386 {G : qG} {d : Nat} {c : qV} (hc : qvok G d c) {K17 : qF} (h17 : Snd G (d + 1) 314 17 K17) : Snd G (d + 1) 314 386 (n_314_386 c K17) := (sF_snd qk_314 hy_314 hc (bF_snd (pc := 392) qk_314 (by decide +kernel)
 (s_314_404 hc)
 (sF_snd qk_314 hy_314 hc (bF_snd (pc := 401) qk_314 (by decide +kernel)
 (sF_snd qk_314 hy_314 hc (s_314_430 hc h17) _ 408 (by decide +kernel))
 (s_314_404 hc)) _ 395 (by decide +kernel))) _ 386 (by decide +kernel))
noncomputable def n_314_384 (c : qV) (K17 : qF) : qF := (sF c [(.lstore 12, 2, 0, 0, 0)] (n_314_386 c K17))
theorem s_314_384 {G : qG} {d : Nat} {c : qV} (hc : qvok G d c) {K17 : qF} (h17 : Snd G (d + 1) 314 17 K17) : Snd G (d + 1) 314 384 (n_314_384 c K17) := (sF_snd qk_314 hy_314 hc (s_314_386 hc h17) _ 384 (by decide +kernel))
noncomputable def n_314_245 (c : qV) (K17 : qF) : qF := (sF c [(.lstore 12, 2, 0, 0, 0), (.goto 139, 3, 386, 0, 0)] (n_314_386 c K17))
theorem s_314_245 {G : qG} {d : Nat} {c : qV} (hc : qvok G d c) {K17 : qF} (h17 : Snd G (d + 1) 314 17 K17) : Snd G (d + 1) 314 245 (n_314_245 c K17) := (sF_snd qk_314 hy_314 hc (s_314_386 hc h17) _ 245 (by decide +kernel))
noncomputable def n_314_192 (c : qV) (K17 : qF) : qF := (sF c [(.i2l, 1, 0, 0, 0), (.lcmp, 1, 0, 0, 0)] (bF (.ifCond .eq 9, 3, 203, 0, 0)
 (sF c [(.iload 7, 2, 0, 0, 0), (.iload 5, 2, 0, 0, 0)] (bF (.if_icmp .le 223, 3, 430, 0, 0)
 (n_314_430 c K17)
 (sF c [(.iload 7, 2, 0, 0, 0), (.iconst 1, 1, 0, 0, 0), (.isub, 1, 0, 0, 0), (.istore 5, 2, 0, 0, 0), (.goto 214, 3, 430, 0, 0)] (n_314_430 c K17))))
 (sF c [(.iinc 4 (-1), 3, 0, 0, 0), (.goto 230, 3, 430, 0, 0)] (n_314_430 c K17))))
theorem s_314_192 {G : qG} {d : Nat} {c : qV} (hc : qvok G d c) {K17 : qF} (h17 : Snd G (d + 1) 314 17 K17) : Snd G (d + 1) 314 192 (n_314_192 c K17) := (sF_snd qk_314 hy_314 hc (bF_snd (pc := 194) qk_314 (by decide +kernel)
 (sF_snd qk_314 hy_314 hc (bF_snd (pc := 207) qk_314 (by decide +kernel)
 (s_314_430 hc h17)
 (sF_snd qk_314 hy_314 hc (s_314_430 hc h17) _ 210 (by decide +kernel))) _ 203 (by decide +kernel))
 (sF_snd qk_314 hy_314 hc (s_314_430 hc h17) _ 197 (by decide +kernel))) _ 192 (by decide +kernel))
noncomputable def n_314_179 (c : qV) (K17 : qF) : qF := (sF c [(.lload 10, 2, 0, 0, 0), (.iload 6, 2, 0, 0, 0), (.iconst 3, 1, 0, 0, 0)] (bF (.if_icmp .ne 7, 3, 191, 0, 0)
 (sF c [(.iconst 0, 1, 0, 0, 0)] (n_314_192 c K17))
 (sF c [(.iconst 1, 1, 0, 0, 0), (.goto 4, 3, 192, 0, 0)] (n_314_192 c K17))))
theorem s_314_179 {G : qG} {d : Nat} {c : qV} (hc : qvok G d c) {K17 : qF} (h17 : Snd G (d + 1) 314 17 K17) : Snd G (d + 1) 314 179 (n_314_179 c K17) := (sF_snd qk_314 hy_314 hc (bF_snd (pc := 184) qk_314 (by decide +kernel)
 (sF_snd qk_314 hy_314 hc (s_314_192 hc h17) _ 191 (by decide +kernel))
 (sF_snd qk_314 hy_314 hc (s_314_192 hc h17) _ 187 (by decide +kernel))) _ 179 (by decide +kernel))
noncomputable def n_314_307 (c : qV) (K17 : qF) : qF := (sF c [(.lstore 12, 2, 0, 0, 0), (.goto 77, 3, 386, 0, 0)] (n_314_386 c K17))
theorem s_314_307 {G : qG} {d : Nat} {c : qV} (hc : qvok G d c) {K17 : qF} (h17 : Snd G (d + 1) 314 17 K17) : Snd G (d + 1) 314 307 (n_314_307 c K17) := (sF_snd qk_314 hy_314 hc (s_314_386 hc h17) _ 307 (by decide +kernel))
noncomputable def n_314_330 (c : qV) (K17 : qF) : qF := (sF c [(.lstore 12, 2, 0, 0, 0), (.goto 54, 3, 386, 0, 0)] (n_314_386 c K17))
theorem s_314_330 {G : qG} {d : Nat} {c : qV} (hc : qvok G d c) {K17 : qF} (h17 : Snd G (d + 1) 314 17 K17) : Snd G (d + 1) 314 330 (n_314_330 c K17) := (sF_snd qk_314 hy_314 hc (s_314_386 hc h17) _ 330 (by decide +kernel))
noncomputable def n_314_348 (c : qV) (K17 : qF) : qF := (sF c [(.lstore 12, 2, 0, 0, 0), (.goto 36, 3, 386, 0, 0)] (n_314_386 c K17))
theorem s_314_348 {G : qG} {d : Nat} {c : qV} (hc : qvok G d c) {K17 : qF} (h17 : Snd G (d + 1) 314 17 K17) : Snd G (d + 1) 314 348 (n_314_348 c K17) := (sF_snd qk_314 hy_314 hc (s_314_386 hc h17) _ 348 (by decide +kernel))
noncomputable def n_314_366 (c : qV) (K17 : qF) : qF := (sF c [(.lstore 12, 2, 0, 0, 0), (.goto 18, 3, 386, 0, 0)] (n_314_386 c K17))
theorem s_314_366 {G : qG} {d : Nat} {c : qV} (hc : qvok G d c) {K17 : qF} (h17 : Snd G (d + 1) 314 17 K17) : Snd G (d + 1) 314 366 (n_314_366 c K17) := (sF_snd qk_314 hy_314 hc (s_314_386 hc h17) _ 366 (by decide +kernel))
noncomputable def n_314_106 (c : qV) (K17 : qF) : qF := (sF c [(.lstore 10, 2, 0, 0, 0), (.iload 6, 2, 0, 0, 0)] (swF 0 [(sF c [(.lload 10, 2, 0, 0, 0)] rL),
 (sF c [(.iload 7, 2, 0, 0, 0), (.i2l, 1, 0, 0, 0), (.lstore 12, 2, 0, 0, 0), (.goto 162, 3, 386, 0, 0)] (n_314_386 c K17)),
 (sF c [(.iload 7, 2, 0, 0, 0), (.aload_n 2, 1, 0, 0, 0), (.arraylength, 1, 0, 0, 0)] (bF (.if_icmp .ge 11, 3, 242, 0, 0)
 (sF c [(.ldc2_w 50, 3, 0, 0, -2000000000)] (n_314_245 c K17))
 (sF c [(.aload_n 2, 1, 0, 0, 0), (.iload 7, 2, 0, 0, 0), (.iaload, 1, 0, 0, 0), (.i2l, 1, 0, 0, 0), (.goto 6, 3, 245, 0, 0)] (n_314_245 c K17)))),
 (n_314_179 c K17),
 (n_314_179 c K17),
 (sF c [(.lconst 1, 1, 0, 0, 0), (.lload 10, 2, 0, 0, 0), (.lsub, 1, 0, 0, 0), (.lstore 12, 2, 0, 0, 0), (.goto 130, 3, 386, 0, 0)] (n_314_386 c K17)),
 (sF c [(.lload 8, 2, 0, 0, 0), (.lload 10, 2, 0, 0, 0), (.ladd, 1, 0, 0, 0), (.lstore 12, 2, 0, 0, 0), (.goto 120, 3, 386, 0, 0)] (n_314_386 c K17)),
 (sF c [(.lload 8, 2, 0, 0, 0), (.lload 10, 2, 0, 0, 0), (.lsub, 1, 0, 0, 0), (.lstore 12, 2, 0, 0, 0), (.goto 110, 3, 386, 0, 0)] (n_314_386 c K17)),
 (sF c [(.lload 8, 2, 0, 0, 0), (.lload 10, 2, 0, 0, 0), (.lmul, 1, 0, 0, 0), (.lstore 12, 2, 0, 0, 0), (.goto 100, 3, 386, 0, 0)] (n_314_386 c K17)),
 (sF c [(.lload 10, 2, 0, 0, 0), (.lconst 0, 1, 0, 0, 0), (.lcmp, 1, 0, 0, 0)] (bF (.ifCond .ne 9, 3, 302, 0, 0)
 (sF c [(.lload 8, 2, 0, 0, 0), (.lload 10, 2, 0, 0, 0), (.ldiv, 1, 0, 0, 0)] (n_314_307 c K17))
 (sF c [(.ldc2_w 50, 3, 0, 0, -2000000000), (.goto 8, 3, 307, 0, 0)] (n_314_307 c K17)))),
 (sF c [(.lload 10, 2, 0, 0, 0), (.lconst 0, 1, 0, 0, 0), (.lcmp, 1, 0, 0, 0)] (bF (.ifCond .ne 9, 3, 325, 0, 0)
 (sF c [(.lload 8, 2, 0, 0, 0), (.lload 10, 2, 0, 0, 0), (.lrem, 1, 0, 0, 0)] (n_314_330 c K17))
 (sF c [(.ldc2_w 50, 3, 0, 0, -2000000000), (.goto 8, 3, 330, 0, 0)] (n_314_330 c K17)))),
 (sF c [(.lload 8, 2, 0, 0, 0), (.lload 10, 2, 0, 0, 0), (.lcmp, 1, 0, 0, 0)] (bF (.ifCond .ge 7, 3, 347, 0, 0)
 (sF c [(.lconst 0, 1, 0, 0, 0)] (n_314_348 c K17))
 (sF c [(.lconst 1, 1, 0, 0, 0), (.goto 4, 3, 348, 0, 0)] (n_314_348 c K17)))),
 (sF c [(.lload 8, 2, 0, 0, 0), (.lload 10, 2, 0, 0, 0), (.lcmp, 1, 0, 0, 0)] (bF (.ifCond .le 7, 3, 365, 0, 0)
 (sF c [(.lconst 0, 1, 0, 0, 0)] (n_314_366 c K17))
 (sF c [(.lconst 1, 1, 0, 0, 0), (.goto 4, 3, 366, 0, 0)] (n_314_366 c K17))))] (sF c [(.lload 8, 2, 0, 0, 0), (.lload 10, 2, 0, 0, 0), (.lcmp, 1, 0, 0, 0)] (bF (.ifCond .ne 7, 3, 383, 0, 0)
 (sF c [(.lconst 0, 1, 0, 0, 0)] (n_314_384 c K17))
 (sF c [(.lconst 1, 1, 0, 0, 0), (.goto 4, 3, 384, 0, 0)] (n_314_384 c K17))))))
theorem s_314_106 {G : qG} {d : Nat} {c : qV} (hc : qvok G d c) {K17 : qF} (h17 : Snd G (d + 1) 314 17 K17) : Snd G (d + 1) 314 106 (n_314_106 c K17) := (sF_snd qk_314 hy_314 hc (swF_snd (pc := 110) (lo := 0) (df := 371) qk_314 (by decide +kernel) (Snds_c (t := 176) (sF_snd qk_314 hy_314 hc (rL_snd (pc := 178) qk_314 (by decide +kernel) (by decide +kernel)) _ 176 (by decide +kernel)) (Snds_c (t := 219) (sF_snd qk_314 hy_314 hc (s_314_386 hc h17) _ 219 (by decide +kernel)) (Snds_c (t := 227) (sF_snd qk_314 hy_314 hc (bF_snd (pc := 231) qk_314 (by decide +kernel)
 (sF_snd qk_314 hy_314 hc (s_314_245 hc h17) _ 242 (by decide +kernel))
 (sF_snd qk_314 hy_314 hc (s_314_245 hc h17) _ 234 (by decide +kernel))) _ 227 (by decide +kernel)) (Snds_c (t := 179) (s_314_179 hc h17) (Snds_c (t := 179) (s_314_179 hc h17) (Snds_c (t := 250) (sF_snd qk_314 hy_314 hc (s_314_386 hc h17) _ 250 (by decide +kernel)) (Snds_c (t := 259) (sF_snd qk_314 hy_314 hc (s_314_386 hc h17) _ 259 (by decide +kernel)) (Snds_c (t := 269) (sF_snd qk_314 hy_314 hc (s_314_386 hc h17) _ 269 (by decide +kernel)) (Snds_c (t := 279) (sF_snd qk_314 hy_314 hc (s_314_386 hc h17) _ 279 (by decide +kernel)) (Snds_c (t := 289) (sF_snd qk_314 hy_314 hc (bF_snd (pc := 293) qk_314 (by decide +kernel)
 (sF_snd qk_314 hy_314 hc (s_314_307 hc h17) _ 302 (by decide +kernel))
 (sF_snd qk_314 hy_314 hc (s_314_307 hc h17) _ 296 (by decide +kernel))) _ 289 (by decide +kernel)) (Snds_c (t := 312) (sF_snd qk_314 hy_314 hc (bF_snd (pc := 316) qk_314 (by decide +kernel)
 (sF_snd qk_314 hy_314 hc (s_314_330 hc h17) _ 325 (by decide +kernel))
 (sF_snd qk_314 hy_314 hc (s_314_330 hc h17) _ 319 (by decide +kernel))) _ 312 (by decide +kernel)) (Snds_c (t := 335) (sF_snd qk_314 hy_314 hc (bF_snd (pc := 340) qk_314 (by decide +kernel)
 (sF_snd qk_314 hy_314 hc (s_314_348 hc h17) _ 347 (by decide +kernel))
 (sF_snd qk_314 hy_314 hc (s_314_348 hc h17) _ 343 (by decide +kernel))) _ 335 (by decide +kernel)) (Snds_c (t := 353) (sF_snd qk_314 hy_314 hc (bF_snd (pc := 358) qk_314 (by decide +kernel)
 (sF_snd qk_314 hy_314 hc (s_314_366 hc h17) _ 365 (by decide +kernel))
 (sF_snd qk_314 hy_314 hc (s_314_366 hc h17) _ 361 (by decide +kernel))) _ 353 (by decide +kernel)) Snds_n))))))))))))) (sF_snd qk_314 hy_314 hc (bF_snd (pc := 376) qk_314 (by decide +kernel)
 (sF_snd qk_314 hy_314 hc (s_314_384 hc h17) _ 383 (by decide +kernel))
 (sF_snd qk_314 hy_314 hc (s_314_384 hc h17) _ 379 (by decide +kernel))) _ 371 (by decide +kernel))) _ 106 (by decide +kernel))
noncomputable def n_314_88 (c : qV) (K17 : qF) : qF := (sF c [(.lstore 8, 2, 0, 0, 0), (.iload 4, 2, 0, 0, 0)] (bF (.ifCond .le 13, 3, 105, 0, 0)
 (sF c [(.lconst 0, 1, 0, 0, 0)] (n_314_106 c K17))
 (sF c [(.aload_n 3, 1, 0, 0, 0), (.iload 4, 2, 0, 0, 0), (.iconst 1, 1, 0, 0, 0), (.isub, 1, 0, 0, 0), (.iaload, 1, 0, 0, 0), (.i2l, 1, 0, 0, 0), (.goto 4, 3, 106, 0, 0)] (n_314_106 c K17))))
theorem s_314_88 {G : qG} {d : Nat} {c : qV} (hc : qvok G d c) {K17 : qF} (h17 : Snd G (d + 1) 314 17 K17) : Snd G (d + 1) 314 88 (n_314_88 c K17) := (sF_snd qk_314 hy_314 hc (bF_snd (pc := 92) qk_314 (by decide +kernel)
 (sF_snd qk_314 hy_314 hc (s_314_106 hc h17) _ 105 (by decide +kernel))
 (sF_snd qk_314 hy_314 hc (s_314_106 hc h17) _ 95 (by decide +kernel))) _ 88 (by decide +kernel))
noncomputable def f_314_17 (c : qV) (K17 : qF) : qF := (sF c [(.iload 5, 2, 0, 0, 0), (.aload_n 0, 1, 0, 0, 0), (.getfield 15, 3, 10, 6, 0)] (bF (.if_icmp .ge 413, 3, 436, 0, 0)
 (n_314_436 c)
 (sF c [(.aload_n 0, 1, 0, 0, 0), (.getfield 31, 3, 10, 4, 2), (.iload 5, 2, 0, 0, 0), (.iaload, 1, 0, 0, 0), (.bipush 15, 2, 0, 0, 0), (.iand, 1, 0, 0, 0), (.istore 6, 2, 0, 0, 0), (.aload_n 0, 1, 0, 0, 0), (.getfield 31, 3, 10, 4, 2), (.iload 5, 2, 0, 0, 0), (.iaload, 1, 0, 0, 0), (.iconst 4, 1, 0, 0, 0), (.ishr, 1, 0, 0, 0), (.istore 7, 2, 0, 0, 0), (.iload 4, 2, 0, 0, 0), (.getstatic 47, 3, 3, 0, 0), (.iload 6, 2, 0, 0, 0), (.iaload, 1, 0, 0, 0)] (bF (.if_icmp .lt 10, 3, 67, 0, 0)
 (n_314_67 c)
 (sF c [(.iload 4, 2, 0, 0, 0), (.aload_n 3, 1, 0, 0, 0), (.arraylength, 1, 0, 0, 0)] (bF (.if_icmp .lt 7, 3, 71, 0, 0)
 (sF c [(.iload 4, 2, 0, 0, 0), (.iconst 1, 1, 0, 0, 0)] (bF (.if_icmp .le 13, 3, 87, 0, 0)
 (sF c [(.lconst 0, 1, 0, 0, 0)] (n_314_88 c K17))
 (sF c [(.aload_n 3, 1, 0, 0, 0), (.iload 4, 2, 0, 0, 0), (.iconst 2, 1, 0, 0, 0), (.isub, 1, 0, 0, 0), (.iaload, 1, 0, 0, 0), (.i2l, 1, 0, 0, 0), (.goto 4, 3, 88, 0, 0)] (n_314_88 c K17))))
 (n_314_67 c)))))))
noncomputable def n_314_17 (c : qV) : qF := lp (f_314_17 c) qLF
theorem s_314_17 {G : qG} {d : Nat} {c : qV} (hc : qvok G d c) : Snd G (d + 1) 314 17 (n_314_17 c) := lp_snd (fun K17 h17 => (sF_snd qk_314 hy_314 hc (bF_snd (pc := 23) qk_314 (by decide +kernel)
 (s_314_436 hc)
 (sF_snd qk_314 hy_314 hc (bF_snd (pc := 57) qk_314 (by decide +kernel)
 (s_314_67 hc)
 (sF_snd qk_314 hy_314 hc (bF_snd (pc := 64) qk_314 (by decide +kernel)
 (sF_snd qk_314 hy_314 hc (bF_snd (pc := 74) qk_314 (by decide +kernel)
 (sF_snd qk_314 hy_314 hc (s_314_88 hc h17) _ 87 (by decide +kernel))
 (sF_snd qk_314 hy_314 hc (s_314_88 hc h17) _ 77 (by decide +kernel))) _ 71 (by decide +kernel))
 (s_314_67 hc)) _ 60 (by decide +kernel))) _ 26 (by decide +kernel))) _ 17 (by decide +kernel))) _
noncomputable def n_314_15 (c : qV) : qF := (sF c [(.istore 5, 2, 0, 0, 0)] (n_314_17 c))
theorem s_314_15 {G : qG} {d : Nat} {c : qV} (hc : qvok G d c) : Snd G (d + 1) 314 15 (n_314_15 c) := (sF_snd qk_314 hy_314 hc (s_314_17 hc) _ 15 (by decide +kernel))
noncomputable def n_314_0 (c : qV) : qF := (sF c [(.iconst 0, 1, 0, 0, 0), (.istore 4, 2, 0, 0, 0), (.iload_n 1, 1, 0, 0, 0)] (bF (.ifCond .ge 10, 3, 14, 0, 0)
 (sF c [(.iload_n 1, 1, 0, 0, 0)] (n_314_15 c))
 (sF c [(.aload_n 0, 1, 0, 0, 0), (.getfield 15, 3, 10, 6, 0), (.goto 4, 3, 15, 0, 0)] (n_314_15 c))))
theorem s_314_0 {G : qG} {d : Nat} {c : qV} (hc : qvok G d c) : Snd G (d + 1) 314 0 (n_314_0 c) := (sF_snd qk_314 hy_314 hc (bF_snd (pc := 4) qk_314 (by decide +kernel)
 (sF_snd qk_314 hy_314 hc (s_314_15 hc) _ 14 (by decide +kernel))
 (sF_snd qk_314 hy_314 hc (s_314_15 hc) _ 7 (by decide +kernel))) _ 0 (by decide +kernel))
/-! java/util/Arrays.fill([II)V -/
theorem hy_329 : (qnm 329).cls = qocn (qoc 329) := by decide +kernel
noncomputable def n_329_20 (c : qV) : qF := rV
theorem s_329_20 {G : qG} {d : Nat} {c : qV} (hc : qvok G d c) : Snd G (d + 1) 329 20 (n_329_20 c) := (rV_snd (pc := 20) qk_329 (by decide +kernel) (by decide +kernel))
noncomputable def f_329_5 (c : qV) (K5 : qF) : qF := (sF c [(.iload_n 2, 1, 0, 0, 0), (.iload_n 3, 1, 0, 0, 0)] (bF (.if_icmp .ge 13, 3, 20, 0, 0)
 (n_329_20 c)
 (sF c [(.aload_n 0, 1, 0, 0, 0), (.iload_n 2, 1, 0, 0, 0), (.iload_n 1, 1, 0, 0, 0), (.iastore, 1, 0, 0, 0), (.iinc 2 1, 3, 0, 0, 0), (.goto (-12), 3, 5, 0, 0)] K5)))
noncomputable def n_329_5 (c : qV) : qF := lp (f_329_5 c) qLF
theorem s_329_5 {G : qG} {d : Nat} {c : qV} (hc : qvok G d c) : Snd G (d + 1) 329 5 (n_329_5 c) := lp_snd (fun K5 h5 => (sF_snd qk_329 hy_329 hc (bF_snd (pc := 7) qk_329 (by decide +kernel)
 (s_329_20 hc)
 (sF_snd qk_329 hy_329 hc h5 _ 10 (by decide +kernel))) _ 5 (by decide +kernel))) _
noncomputable def n_329_0 (c : qV) : qF := (sF c [(.iconst 0, 1, 0, 0, 0), (.istore_n 2, 1, 0, 0, 0), (.aload_n 0, 1, 0, 0, 0), (.arraylength, 1, 0, 0, 0), (.istore_n 3, 1, 0, 0, 0)] (n_329_5 c))
theorem s_329_0 {G : qG} {d : Nat} {c : qV} (hc : qvok G d c) : Snd G (d + 1) 329 0 (n_329_0 c) := (sF_snd qk_329 hy_329 hc (s_329_5 hc) _ 0 (by decide +kernel))
