theorem qsub_1 {w : Cond} (h : w ∈ tables_1_1) : w ∈ lw_tbl := List.mem_append_right _ (show w ∈ tables_1 from List.mem_append_left _ h)
theorem qsub_2 {w : Cond} (h : w ∈ tables_1_2) : w ∈ lw_tbl := List.mem_append_right _ (show w ∈ tables_1 from List.mem_append_right _ (List.mem_append_left _ h))
theorem qsub_3 {w : Cond} (h : w ∈ tables_1_3) : w ∈ lw_tbl := List.mem_append_right _ (show w ∈ tables_1 from List.mem_append_right _ (List.mem_append_right _ (List.mem_append_left _ h)))
theorem qsub_4 {w : Cond} (h : w ∈ tables_1_4) : w ∈ lw_tbl := List.mem_append_right _ (show w ∈ tables_1 from List.mem_append_right _ (List.mem_append_right _ (List.mem_append_right _ (List.mem_append_left _ h))))
theorem qsub_5 {w : Cond} (h : w ∈ tables_1_5) : w ∈ lw_tbl := List.mem_append_right _ (show w ∈ tables_1 from List.mem_append_right _ (List.mem_append_right _ (List.mem_append_right _ (List.mem_append_right _ (List.mem_append_left _ h)))))
theorem qsub_6 {w : Cond} (h : w ∈ tables_1_6) : w ∈ lw_tbl := List.mem_append_right _ (show w ∈ tables_1 from List.mem_append_right _ (List.mem_append_right _ (List.mem_append_right _ (List.mem_append_right _ (List.mem_append_right _ (List.mem_append_left _ h))))))
theorem qsub_7 {w : Cond} (h : w ∈ tables_1_7) : w ∈ lw_tbl := List.mem_append_right _ (show w ∈ tables_1 from List.mem_append_right _ (List.mem_append_right _ (List.mem_append_right _ (List.mem_append_right _ (List.mem_append_right _ (List.mem_append_right _ (List.mem_append_left _ h)))))))
theorem qsub_8 {w : Cond} (h : w ∈ tables_1_8) : w ∈ lw_tbl := List.mem_append_right _ (show w ∈ tables_1 from List.mem_append_right _ (List.mem_append_right _ (List.mem_append_right _ (List.mem_append_right _ (List.mem_append_right _ (List.mem_append_right _ (List.mem_append_right _ (List.mem_append_left _ h))))))))
theorem qsub_9 {w : Cond} (h : w ∈ tables_1_9) : w ∈ lw_tbl := List.mem_append_right _ (show w ∈ tables_1 from List.mem_append_right _ (List.mem_append_right _ (List.mem_append_right _ (List.mem_append_right _ (List.mem_append_right _ (List.mem_append_right _ (List.mem_append_right _ (List.mem_append_right _ (h)))))))))
theorem qmemf {w : Cond} (h : w ∈ lw_tbl) (hg : qgoodw w = true) : w ∈ qtb := List.mem_filter.mpr ⟨h, hg⟩
set_option maxRecDepth 20000 in
theorem qcw_1 : Cond.code (qnm 1) (qB 1) (qml 1) (qret 1) ∈ qtb := qmemf (qsub_1 (List.mem_of_getElem? (i := 24) rfl)) rfl
set_option maxRecDepth 20000 in
theorem qcw_2 : Cond.code (qnm 2) (qB 2) (qml 2) (qret 2) ∈ qtb := qmemf (qsub_3 (List.mem_of_getElem? (i := 149) rfl)) rfl
set_option maxRecDepth 20000 in
theorem qcw_3 : Cond.code (qnm 3) (qB 3) (qml 3) (qret 3) ∈ qtb := qmemf (qsub_3 (List.mem_of_getElem? (i := 167) rfl)) rfl
set_option maxRecDepth 20000 in
theorem qcw_4 : Cond.code (qnm 4) (qB 4) (qml 4) (qret 4) ∈ qtb := qmemf (qsub_3 (List.mem_of_getElem? (i := 171) rfl)) rfl
set_option maxRecDepth 20000 in
theorem qcw_5 : Cond.code (qnm 5) (qB 5) (qml 5) (qret 5) ∈ qtb := qmemf (qsub_3 (List.mem_of_getElem? (i := 179) rfl)) rfl
set_option maxRecDepth 20000 in
theorem qcw_6 : Cond.code (qnm 6) (qB 6) (qml 6) (qret 6) ∈ qtb := qmemf (qsub_3 (List.mem_of_getElem? (i := 183) rfl)) rfl
set_option maxRecDepth 20000 in
theorem qcw_7 : Cond.code (qnm 7) (qB 7) (qml 7) (qret 7) ∈ qtb := qmemf (qsub_3 (List.mem_of_getElem? (i := 187) rfl)) rfl
set_option maxRecDepth 20000 in
theorem qcw_8 : Cond.code (qnm 8) (qB 8) (qml 8) (qret 8) ∈ qtb := qmemf (qsub_3 (List.mem_of_getElem? (i := 195) rfl)) rfl
set_option maxRecDepth 20000 in
theorem qcw_9 : Cond.code (qnm 9) (qB 9) (qml 9) (qret 9) ∈ qtb := qmemf (qsub_3 (List.mem_of_getElem? (i := 199) rfl)) rfl
set_option maxRecDepth 20000 in
theorem qcw_10 : Cond.code (qnm 10) (qB 10) (qml 10) (qret 10) ∈ qtb := qmemf (qsub_3 (List.mem_of_getElem? (i := 207) rfl)) rfl
set_option maxRecDepth 20000 in
theorem qcw_11 : Cond.code (qnm 11) (qB 11) (qml 11) (qret 11) ∈ qtb := qmemf (qsub_3 (List.mem_of_getElem? (i := 215) rfl)) rfl
set_option maxRecDepth 20000 in
theorem qcw_12 : Cond.code (qnm 12) (qB 12) (qml 12) (qret 12) ∈ qtb := qmemf (qsub_3 (List.mem_of_getElem? (i := 223) rfl)) rfl
set_option maxRecDepth 20000 in
theorem qcw_13 : Cond.code (qnm 13) (qB 13) (qml 13) (qret 13) ∈ qtb := qmemf (qsub_3 (List.mem_of_getElem? (i := 231) rfl)) rfl
set_option maxRecDepth 20000 in
theorem qcw_14 : Cond.code (qnm 14) (qB 14) (qml 14) (qret 14) ∈ qtb := qmemf (qsub_3 (List.mem_of_getElem? (i := 235) rfl)) rfl
set_option maxRecDepth 20000 in
theorem qcw_15 : Cond.code (qnm 15) (qB 15) (qml 15) (qret 15) ∈ qtb := qmemf (qsub_3 (List.mem_of_getElem? (i := 239) rfl)) rfl
set_option maxRecDepth 20000 in
theorem qcw_16 : Cond.code (qnm 16) (qB 16) (qml 16) (qret 16) ∈ qtb := qmemf (qsub_4 (List.mem_of_getElem? (i := 3) rfl)) rfl
set_option maxRecDepth 20000 in
theorem qcw_17 : Cond.code (qnm 17) (qB 17) (qml 17) (qret 17) ∈ qtb := qmemf (qsub_4 (List.mem_of_getElem? (i := 167) rfl)) rfl
set_option maxRecDepth 20000 in
theorem qcw_18 : Cond.code (qnm 18) (qB 18) (qml 18) (qret 18) ∈ qtb := qmemf (qsub_5 (List.mem_of_getElem? (i := 102) rfl)) rfl
set_option maxRecDepth 20000 in
theorem qcw_19 : Cond.code (qnm 19) (qB 19) (qml 19) (qret 19) ∈ qtb := qmemf (qsub_5 (List.mem_of_getElem? (i := 106) rfl)) rfl
set_option maxRecDepth 20000 in
theorem qcw_20 : Cond.code (qnm 20) (qB 20) (qml 20) (qret 20) ∈ qtb := qmemf (qsub_5 (List.mem_of_getElem? (i := 110) rfl)) rfl
set_option maxRecDepth 20000 in
theorem qcw_21 : Cond.code (qnm 21) (qB 21) (qml 21) (qret 21) ∈ qtb := qmemf (qsub_5 (List.mem_of_getElem? (i := 114) rfl)) rfl
set_option maxRecDepth 20000 in
theorem qcw_22 : Cond.code (qnm 22) (qB 22) (qml 22) (qret 22) ∈ qtb := qmemf (qsub_5 (List.mem_of_getElem? (i := 119) rfl)) rfl
set_option maxRecDepth 20000 in
theorem qcw_23 : Cond.code (qnm 23) (qB 23) (qml 23) (qret 23) ∈ qtb := qmemf (qsub_5 (List.mem_of_getElem? (i := 131) rfl)) rfl
set_option maxRecDepth 20000 in
theorem qcw_24 : Cond.code (qnm 24) (qB 24) (qml 24) (qret 24) ∈ qtb := qmemf (qsub_5 (List.mem_of_getElem? (i := 135) rfl)) rfl
set_option maxRecDepth 20000 in
theorem qcw_25 : Cond.code (qnm 25) (qB 25) (qml 25) (qret 25) ∈ qtb := qmemf (qsub_5 (List.mem_of_getElem? (i := 139) rfl)) rfl
set_option maxRecDepth 20000 in
theorem qcw_26 : Cond.code (qnm 26) (qB 26) (qml 26) (qret 26) ∈ qtb := qmemf (qsub_5 (List.mem_of_getElem? (i := 175) rfl)) rfl
set_option maxRecDepth 20000 in
theorem qcw_27 : Cond.code (qnm 27) (qB 27) (qml 27) (qret 27) ∈ qtb := qmemf (qsub_5 (List.mem_of_getElem? (i := 182) rfl)) rfl
set_option maxRecDepth 20000 in
theorem qcw_28 : Cond.code (qnm 28) (qB 28) (qml 28) (qret 28) ∈ qtb := qmemf (qsub_5 (List.mem_of_getElem? (i := 193) rfl)) rfl
set_option maxRecDepth 20000 in
theorem qcw_29 : Cond.code (qnm 29) (qB 29) (qml 29) (qret 29) ∈ qtb := qmemf (qsub_5 (List.mem_of_getElem? (i := 201) rfl)) rfl
set_option maxRecDepth 20000 in
theorem qcw_30 : Cond.code (qnm 30) (qB 30) (qml 30) (qret 30) ∈ qtb := qmemf (qsub_5 (List.mem_of_getElem? (i := 205) rfl)) rfl
set_option maxRecDepth 20000 in
theorem qcw_31 : Cond.code (qnm 31) (qB 31) (qml 31) (qret 31) ∈ qtb := qmemf (qsub_5 (List.mem_of_getElem? (i := 225) rfl)) rfl
set_option maxRecDepth 20000 in
theorem qcw_32 : Cond.code (qnm 32) (qB 32) (qml 32) (qret 32) ∈ qtb := qmemf (qsub_5 (List.mem_of_getElem? (i := 234) rfl)) rfl
set_option maxRecDepth 20000 in
theorem qcw_33 : Cond.code (qnm 33) (qB 33) (qml 33) (qret 33) ∈ qtb := qmemf (qsub_6 (List.mem_of_getElem? (i := 23) rfl)) rfl
set_option maxRecDepth 20000 in
theorem qcw_34 : Cond.code (qnm 34) (qB 34) (qml 34) (qret 34) ∈ qtb := qmemf (qsub_6 (List.mem_of_getElem? (i := 27) rfl)) rfl
set_option maxRecDepth 20000 in
theorem qcw_35 : Cond.code (qnm 35) (qB 35) (qml 35) (qret 35) ∈ qtb := qmemf (qsub_6 (List.mem_of_getElem? (i := 31) rfl)) rfl
set_option maxRecDepth 20000 in
theorem qcw_36 : Cond.code (qnm 36) (qB 36) (qml 36) (qret 36) ∈ qtb := qmemf (qsub_6 (List.mem_of_getElem? (i := 40) rfl)) rfl
set_option maxRecDepth 20000 in
theorem qcw_37 : Cond.code (qnm 37) (qB 37) (qml 37) (qret 37) ∈ qtb := qmemf (qsub_6 (List.mem_of_getElem? (i := 48) rfl)) rfl
set_option maxRecDepth 20000 in
theorem qcw_38 : Cond.code (qnm 38) (qB 38) (qml 38) (qret 38) ∈ qtb := qmemf (qsub_6 (List.mem_of_getElem? (i := 58) rfl)) rfl
set_option maxRecDepth 20000 in
theorem qcw_39 : Cond.code (qnm 39) (qB 39) (qml 39) (qret 39) ∈ qtb := qmemf (qsub_6 (List.mem_of_getElem? (i := 74) rfl)) rfl
set_option maxRecDepth 20000 in
theorem qcw_40 : Cond.code (qnm 40) (qB 40) (qml 40) (qret 40) ∈ qtb := qmemf (qsub_6 (List.mem_of_getElem? (i := 81) rfl)) rfl
set_option maxRecDepth 20000 in
theorem qcw_41 : Cond.code (qnm 41) (qB 41) (qml 41) (qret 41) ∈ qtb := qmemf (qsub_6 (List.mem_of_getElem? (i := 85) rfl)) rfl
set_option maxRecDepth 20000 in
theorem qcw_42 : Cond.code (qnm 42) (qB 42) (qml 42) (qret 42) ∈ qtb := qmemf (qsub_6 (List.mem_of_getElem? (i := 133) rfl)) rfl
set_option maxRecDepth 20000 in
theorem qcw_43 : Cond.code (qnm 43) (qB 43) (qml 43) (qret 43) ∈ qtb := qmemf (qsub_6 (List.mem_of_getElem? (i := 151) rfl)) rfl
set_option maxRecDepth 20000 in
theorem qcw_44 : Cond.code (qnm 44) (qB 44) (qml 44) (qret 44) ∈ qtb := qmemf (qsub_6 (List.mem_of_getElem? (i := 155) rfl)) rfl
set_option maxRecDepth 20000 in
theorem qcw_45 : Cond.code (qnm 45) (qB 45) (qml 45) (qret 45) ∈ qtb := qmemf (qsub_6 (List.mem_of_getElem? (i := 160) rfl)) rfl
set_option maxRecDepth 20000 in
theorem qcw_46 : Cond.code (qnm 46) (qB 46) (qml 46) (qret 46) ∈ qtb := qmemf (qsub_6 (List.mem_of_getElem? (i := 164) rfl)) rfl
set_option maxRecDepth 20000 in
theorem qcw_47 : Cond.code (qnm 47) (qB 47) (qml 47) (qret 47) ∈ qtb := qmemf (qsub_6 (List.mem_of_getElem? (i := 170) rfl)) rfl
set_option maxRecDepth 20000 in
theorem qcw_48 : Cond.code (qnm 48) (qB 48) (qml 48) (qret 48) ∈ qtb := qmemf (qsub_3 (List.mem_of_getElem? (i := 159) rfl)) rfl
set_option maxRecDepth 20000 in
theorem qcw_49 : Cond.code (qnm 49) (qB 49) (qml 49) (qret 49) ∈ qtb := qmemf (qsub_3 (List.mem_of_getElem? (i := 163) rfl)) rfl
set_option maxRecDepth 20000 in
theorem qcw_50 : Cond.code (qnm 50) (qB 50) (qml 50) (qret 50) ∈ qtb := qmemf (qsub_3 (List.mem_of_getElem? (i := 227) rfl)) rfl
set_option maxRecDepth 20000 in
theorem qcw_51 : Cond.code (qnm 51) (qB 51) (qml 51) (qret 51) ∈ qtb := qmemf (qsub_5 (List.mem_of_getElem? (i := 123) rfl)) rfl
set_option maxRecDepth 20000 in
theorem qcw_52 : Cond.code (qnm 52) (qB 52) (qml 52) (qret 52) ∈ qtb := qmemf (qsub_6 (List.mem_of_getElem? (i := 138) rfl)) rfl
set_option maxRecDepth 20000 in
theorem qcw_53 : Cond.code (qnm 53) (qB 53) (qml 53) (qret 53) ∈ qtb := qmemf (qsub_6 (List.mem_of_getElem? (i := 142) rfl)) rfl
set_option maxRecDepth 20000 in
theorem qcw_54 : Cond.code (qnm 54) (qB 54) (qml 54) (qret 54) ∈ qtb := qmemf (qsub_3 (List.mem_of_getElem? (i := 191) rfl)) rfl
set_option maxRecDepth 20000 in
theorem qcw_55 : Cond.code (qnm 55) (qB 55) (qml 55) (qret 55) ∈ qtb := qmemf (qsub_5 (List.mem_of_getElem? (i := 188) rfl)) rfl
set_option maxRecDepth 20000 in
theorem qcw_56 : Cond.code (qnm 56) (qB 56) (qml 56) (qret 56) ∈ qtb := qmemf (qsub_3 (List.mem_of_getElem? (i := 211) rfl)) rfl
set_option maxRecDepth 20000 in
theorem qcw_57 : Cond.code (qnm 57) (qB 57) (qml 57) (qret 57) ∈ qtb := qmemf (qsub_3 (List.mem_of_getElem? (i := 155) rfl)) rfl
set_option maxRecDepth 20000 in
theorem qcw_58 : Cond.code (qnm 58) (qB 58) (qml 58) (qret 58) ∈ qtb := qmemf (qsub_3 (List.mem_of_getElem? (i := 152) rfl)) rfl
set_option maxRecDepth 20000 in
theorem qcw_59 : Cond.code (qnm 59) (qB 59) (qml 59) (qret 59) ∈ qtb := qmemf (qsub_5 (List.mem_of_getElem? (i := 178) rfl)) rfl
set_option maxRecDepth 20000 in
theorem qcw_60 : Cond.code (qnm 60) (qB 60) (qml 60) (qret 60) ∈ qtb := qmemf (qsub_6 (List.mem_of_getElem? (i := 54) rfl)) rfl
set_option maxRecDepth 20000 in
theorem qcw_61 : Cond.code (qnm 61) (qB 61) (qml 61) (qret 61) ∈ qtb := qmemf (qsub_6 (List.mem_of_getElem? (i := 51) rfl)) rfl
set_option maxRecDepth 20000 in
theorem qcw_62 : Cond.code (qnm 62) (qB 62) (qml 62) (qret 62) ∈ qtb := qmemf (qsub_5 (List.mem_of_getElem? (i := 21) rfl)) rfl
set_option maxRecDepth 20000 in
theorem qcw_63 : Cond.code (qnm 63) (qB 63) (qml 63) (qret 63) ∈ qtb := qmemf (qsub_5 (List.mem_of_getElem? (i := 12) rfl)) rfl
set_option maxRecDepth 20000 in
theorem qcw_64 : Cond.code (qnm 64) (qB 64) (qml 64) (qret 64) ∈ qtb := qmemf (qsub_5 (List.mem_of_getElem? (i := 15) rfl)) rfl
set_option maxRecDepth 20000 in
theorem qcw_65 : Cond.code (qnm 65) (qB 65) (qml 65) (qret 65) ∈ qtb := qmemf (qsub_5 (List.mem_of_getElem? (i := 18) rfl)) rfl
set_option maxRecDepth 20000 in
theorem qcw_66 : Cond.code (qnm 66) (qB 66) (qml 66) (qret 66) ∈ qtb := qmemf (qsub_5 (List.mem_of_getElem? (i := 36) rfl)) rfl
set_option maxRecDepth 20000 in
theorem qcw_67 : Cond.code (qnm 67) (qB 67) (qml 67) (qret 67) ∈ qtb := qmemf (qsub_6 (List.mem_of_getElem? (i := 77) rfl)) rfl
set_option maxRecDepth 20000 in
theorem qcw_68 : Cond.code (qnm 68) (qB 68) (qml 68) (qret 68) ∈ qtb := qmemf (qsub_6 (List.mem_of_getElem? (i := 61) rfl)) rfl
set_option maxRecDepth 20000 in
theorem qcw_69 : Cond.code (qnm 69) (qB 69) (qml 69) (qret 69) ∈ qtb := qmemf (qsub_6 (List.mem_of_getElem? (i := 64) rfl)) rfl
set_option maxRecDepth 20000 in
theorem qcw_70 : Cond.code (qnm 70) (qB 70) (qml 70) (qret 70) ∈ qtb := qmemf (qsub_6 (List.mem_of_getElem? (i := 70) rfl)) rfl
set_option maxRecDepth 20000 in
theorem qcw_71 : Cond.code (qnm 71) (qB 71) (qml 71) (qret 71) ∈ qtb := qmemf (qsub_7 (List.mem_of_getElem? (i := 155) rfl)) rfl
set_option maxRecDepth 20000 in
theorem qcw_72 : Cond.code (qnm 72) (qB 72) (qml 72) (qret 72) ∈ qtb := qmemf (qsub_7 (List.mem_of_getElem? (i := 159) rfl)) rfl
set_option maxRecDepth 20000 in
theorem qcw_73 : Cond.code (qnm 73) (qB 73) (qml 73) (qret 73) ∈ qtb := qmemf (qsub_7 (List.mem_of_getElem? (i := 163) rfl)) rfl
set_option maxRecDepth 20000 in
theorem qcw_74 : Cond.code (qnm 74) (qB 74) (qml 74) (qret 74) ∈ qtb := qmemf (qsub_9 (List.mem_of_getElem? (i := 84) rfl)) rfl
set_option maxRecDepth 20000 in
theorem qcw_75 : Cond.code (qnm 75) (qB 75) (qml 75) (qret 75) ∈ qtb := qmemf (qsub_9 (List.mem_of_getElem? (i := 163) rfl)) rfl
set_option maxRecDepth 20000 in
theorem qcw_76 : Cond.code (qnm 76) (qB 76) (qml 76) (qret 76) ∈ qtb := qmemf (qsub_6 (List.mem_of_getElem? (i := 175) rfl)) rfl
set_option maxRecDepth 20000 in
theorem qcw_77 : Cond.code (qnm 77) (qB 77) (qml 77) (qret 77) ∈ qtb := qmemf (qsub_7 (List.mem_of_getElem? (i := 152) rfl)) rfl
set_option maxRecDepth 20000 in
theorem qcw_78 : Cond.code (qnm 78) (qB 78) (qml 78) (qret 78) ∈ qtb := qmemf (qsub_7 (List.mem_of_getElem? (i := 167) rfl)) rfl
set_option maxRecDepth 20000 in
theorem qcw_79 : Cond.code (qnm 79) (qB 79) (qml 79) (qret 79) ∈ qtb := qmemf (qsub_7 (List.mem_of_getElem? (i := 174) rfl)) rfl
set_option maxRecDepth 20000 in
theorem qcw_80 : Cond.code (qnm 80) (qB 80) (qml 80) (qret 80) ∈ qtb := qmemf (qsub_9 (List.mem_of_getElem? (i := 29) rfl)) rfl
set_option maxRecDepth 20000 in
theorem qcw_81 : Cond.code (qnm 81) (qB 81) (qml 81) (qret 81) ∈ qtb := qmemf (qsub_7 (List.mem_of_getElem? (i := 206) rfl)) rfl
set_option maxRecDepth 20000 in
theorem qcw_82 : Cond.code (qnm 82) (qB 82) (qml 82) (qret 82) ∈ qtb := qmemf (qsub_9 (List.mem_of_getElem? (i := 6) rfl)) rfl
set_option maxRecDepth 20000 in
theorem qcw_83 : Cond.code (qnm 83) (qB 83) (qml 83) (qret 83) ∈ qtb := qmemf (qsub_7 (List.mem_of_getElem? (i := 234) rfl)) rfl
set_option maxRecDepth 20000 in
theorem qcw_84 : Cond.code (qnm 84) (qB 84) (qml 84) (qret 84) ∈ qtb := qmemf (qsub_7 (List.mem_of_getElem? (i := 190) rfl)) rfl
set_option maxRecDepth 20000 in
theorem qcw_85 : Cond.code (qnm 85) (qB 85) (qml 85) (qret 85) ∈ qtb := qmemf (qsub_8 (List.mem_of_getElem? (i := 216) rfl)) rfl
set_option maxRecDepth 20000 in
theorem qcw_86 : Cond.code (qnm 86) (qB 86) (qml 86) (qret 86) ∈ qtb := qmemf (qsub_7 (List.mem_of_getElem? (i := 178) rfl)) rfl
set_option maxRecDepth 20000 in
theorem qcw_87 : Cond.code (qnm 87) (qB 87) (qml 87) (qret 87) ∈ qtb := qmemf (qsub_7 (List.mem_of_getElem? (i := 171) rfl)) rfl
set_option maxRecDepth 20000 in
theorem qcw_88 : Cond.code (qnm 88) (qB 88) (qml 88) (qret 88) ∈ qtb := qmemf (qsub_7 (List.mem_of_getElem? (i := 182) rfl)) rfl
set_option maxRecDepth 20000 in
theorem qcw_89 : Cond.code (qnm 89) (qB 89) (qml 89) (qret 89) ∈ qtb := qmemf (qsub_7 (List.mem_of_getElem? (i := 186) rfl)) rfl
set_option maxRecDepth 20000 in
theorem qcw_90 : Cond.code (qnm 90) (qB 90) (qml 90) (qret 90) ∈ qtb := qmemf (qsub_7 (List.mem_of_getElem? (i := 194) rfl)) rfl
set_option maxRecDepth 20000 in
theorem qcw_91 : Cond.code (qnm 91) (qB 91) (qml 91) (qret 91) ∈ qtb := qmemf (qsub_7 (List.mem_of_getElem? (i := 198) rfl)) rfl
set_option maxRecDepth 20000 in
theorem qcw_92 : Cond.code (qnm 92) (qB 92) (qml 92) (qret 92) ∈ qtb := qmemf (qsub_7 (List.mem_of_getElem? (i := 202) rfl)) rfl
set_option maxRecDepth 20000 in
theorem qcw_93 : Cond.code (qnm 93) (qB 93) (qml 93) (qret 93) ∈ qtb := qmemf (qsub_7 (List.mem_of_getElem? (i := 214) rfl)) rfl
set_option maxRecDepth 20000 in
theorem qcw_94 : Cond.code (qnm 94) (qB 94) (qml 94) (qret 94) ∈ qtb := qmemf (qsub_7 (List.mem_of_getElem? (i := 210) rfl)) rfl
set_option maxRecDepth 20000 in
theorem qcw_95 : Cond.code (qnm 95) (qB 95) (qml 95) (qret 95) ∈ qtb := qmemf (qsub_7 (List.mem_of_getElem? (i := 226) rfl)) rfl
set_option maxRecDepth 20000 in
theorem qcw_96 : Cond.code (qnm 96) (qB 96) (qml 96) (qret 96) ∈ qtb := qmemf (qsub_7 (List.mem_of_getElem? (i := 222) rfl)) rfl
set_option maxRecDepth 20000 in
theorem qcw_97 : Cond.code (qnm 97) (qB 97) (qml 97) (qret 97) ∈ qtb := qmemf (qsub_7 (List.mem_of_getElem? (i := 218) rfl)) rfl
set_option maxRecDepth 20000 in
theorem qcw_98 : Cond.code (qnm 98) (qB 98) (qml 98) (qret 98) ∈ qtb := qmemf (qsub_7 (List.mem_of_getElem? (i := 230) rfl)) rfl
set_option maxRecDepth 20000 in
theorem qcw_99 : Cond.code (qnm 99) (qB 99) (qml 99) (qret 99) ∈ qtb := qmemf (qsub_8 (List.mem_of_getElem? (i := 1) rfl)) rfl
set_option maxRecDepth 20000 in
theorem qcw_100 : Cond.code (qnm 100) (qB 100) (qml 100) (qret 100) ∈ qtb := qmemf (qsub_7 (List.mem_of_getElem? (i := 238) rfl)) rfl
set_option maxRecDepth 20000 in
theorem qcw_101 : Cond.code (qnm 101) (qB 101) (qml 101) (qret 101) ∈ qtb := qmemf (qsub_8 (List.mem_of_getElem? (i := 5) rfl)) rfl
set_option maxRecDepth 20000 in
theorem qcw_102 : Cond.code (qnm 102) (qB 102) (qml 102) (qret 102) ∈ qtb := qmemf (qsub_8 (List.mem_of_getElem? (i := 9) rfl)) rfl
set_option maxRecDepth 20000 in
theorem qcw_103 : Cond.code (qnm 103) (qB 103) (qml 103) (qret 103) ∈ qtb := qmemf (qsub_8 (List.mem_of_getElem? (i := 13) rfl)) rfl
set_option maxRecDepth 20000 in
theorem qcw_104 : Cond.code (qnm 104) (qB 104) (qml 104) (qret 104) ∈ qtb := qmemf (qsub_8 (List.mem_of_getElem? (i := 17) rfl)) rfl
set_option maxRecDepth 20000 in
theorem qcw_105 : Cond.code (qnm 105) (qB 105) (qml 105) (qret 105) ∈ qtb := qmemf (qsub_8 (List.mem_of_getElem? (i := 36) rfl)) rfl
set_option maxRecDepth 20000 in
theorem qcw_106 : Cond.code (qnm 106) (qB 106) (qml 106) (qret 106) ∈ qtb := qmemf (qsub_8 (List.mem_of_getElem? (i := 39) rfl)) rfl
set_option maxRecDepth 20000 in
theorem qcw_107 : Cond.code (qnm 107) (qB 107) (qml 107) (qret 107) ∈ qtb := qmemf (qsub_8 (List.mem_of_getElem? (i := 43) rfl)) rfl
set_option maxRecDepth 20000 in
theorem qcw_108 : Cond.code (qnm 108) (qB 108) (qml 108) (qret 108) ∈ qtb := qmemf (qsub_8 (List.mem_of_getElem? (i := 33) rfl)) rfl
set_option maxRecDepth 20000 in
theorem qcw_109 : Cond.code (qnm 109) (qB 109) (qml 109) (qret 109) ∈ qtb := qmemf (qsub_8 (List.mem_of_getElem? (i := 60) rfl)) rfl
set_option maxRecDepth 20000 in
theorem qcw_110 : Cond.code (qnm 110) (qB 110) (qml 110) (qret 110) ∈ qtb := qmemf (qsub_8 (List.mem_of_getElem? (i := 79) rfl)) rfl
set_option maxRecDepth 20000 in
theorem qcw_111 : Cond.code (qnm 111) (qB 111) (qml 111) (qret 111) ∈ qtb := qmemf (qsub_8 (List.mem_of_getElem? (i := 56) rfl)) rfl
set_option maxRecDepth 20000 in
theorem qcw_112 : Cond.code (qnm 112) (qB 112) (qml 112) (qret 112) ∈ qtb := qmemf (qsub_8 (List.mem_of_getElem? (i := 83) rfl)) rfl
set_option maxRecDepth 20000 in
theorem qcw_113 : Cond.code (qnm 113) (qB 113) (qml 113) (qret 113) ∈ qtb := qmemf (qsub_8 (List.mem_of_getElem? (i := 87) rfl)) rfl
set_option maxRecDepth 20000 in
theorem qcw_114 : Cond.code (qnm 114) (qB 114) (qml 114) (qret 114) ∈ qtb := qmemf (qsub_8 (List.mem_of_getElem? (i := 75) rfl)) rfl
set_option maxRecDepth 20000 in
theorem qcw_115 : Cond.code (qnm 115) (qB 115) (qml 115) (qret 115) ∈ qtb := qmemf (qsub_8 (List.mem_of_getElem? (i := 103) rfl)) rfl
set_option maxRecDepth 20000 in
theorem qcw_116 : Cond.code (qnm 116) (qB 116) (qml 116) (qret 116) ∈ qtb := qmemf (qsub_8 (List.mem_of_getElem? (i := 52) rfl)) rfl
set_option maxRecDepth 20000 in
theorem qcw_117 : Cond.code (qnm 117) (qB 117) (qml 117) (qret 117) ∈ qtb := qmemf (qsub_8 (List.mem_of_getElem? (i := 48) rfl)) rfl
set_option maxRecDepth 20000 in
theorem qcw_118 : Cond.code (qnm 118) (qB 118) (qml 118) (qret 118) ∈ qtb := qmemf (qsub_8 (List.mem_of_getElem? (i := 91) rfl)) rfl
set_option maxRecDepth 20000 in
theorem qcw_119 : Cond.code (qnm 119) (qB 119) (qml 119) (qret 119) ∈ qtb := qmemf (qsub_8 (List.mem_of_getElem? (i := 95) rfl)) rfl
set_option maxRecDepth 20000 in
theorem qcw_120 : Cond.code (qnm 120) (qB 120) (qml 120) (qret 120) ∈ qtb := qmemf (qsub_8 (List.mem_of_getElem? (i := 99) rfl)) rfl
set_option maxRecDepth 20000 in
theorem qcw_121 : Cond.code (qnm 121) (qB 121) (qml 121) (qret 121) ∈ qtb := qmemf (qsub_8 (List.mem_of_getElem? (i := 64) rfl)) rfl
set_option maxRecDepth 20000 in
theorem qcw_122 : Cond.code (qnm 122) (qB 122) (qml 122) (qret 122) ∈ qtb := qmemf (qsub_8 (List.mem_of_getElem? (i := 68) rfl)) rfl
set_option maxRecDepth 20000 in
theorem qcw_123 : Cond.code (qnm 123) (qB 123) (qml 123) (qret 123) ∈ qtb := qmemf (qsub_8 (List.mem_of_getElem? (i := 72) rfl)) rfl
set_option maxRecDepth 20000 in
theorem qcw_124 : Cond.code (qnm 124) (qB 124) (qml 124) (qret 124) ∈ qtb := qmemf (qsub_8 (List.mem_of_getElem? (i := 29) rfl)) rfl
set_option maxRecDepth 20000 in
theorem qcw_125 : Cond.code (qnm 125) (qB 125) (qml 125) (qret 125) ∈ qtb := qmemf (qsub_8 (List.mem_of_getElem? (i := 25) rfl)) rfl
set_option maxRecDepth 20000 in
theorem qcw_126 : Cond.code (qnm 126) (qB 126) (qml 126) (qret 126) ∈ qtb := qmemf (qsub_8 (List.mem_of_getElem? (i := 107) rfl)) rfl
set_option maxRecDepth 20000 in
theorem qcw_127 : Cond.code (qnm 127) (qB 127) (qml 127) (qret 127) ∈ qtb := qmemf (qsub_8 (List.mem_of_getElem? (i := 21) rfl)) rfl
set_option maxRecDepth 20000 in
theorem qcw_128 : Cond.code (qnm 128) (qB 128) (qml 128) (qret 128) ∈ qtb := qmemf (qsub_8 (List.mem_of_getElem? (i := 111) rfl)) rfl
set_option maxRecDepth 20000 in
theorem qcw_129 : Cond.code (qnm 129) (qB 129) (qml 129) (qret 129) ∈ qtb := qmemf (qsub_8 (List.mem_of_getElem? (i := 115) rfl)) rfl
set_option maxRecDepth 20000 in
theorem qcw_130 : Cond.code (qnm 130) (qB 130) (qml 130) (qret 130) ∈ qtb := qmemf (qsub_8 (List.mem_of_getElem? (i := 131) rfl)) rfl
set_option maxRecDepth 20000 in
theorem qcw_131 : Cond.code (qnm 131) (qB 131) (qml 131) (qret 131) ∈ qtb := qmemf (qsub_8 (List.mem_of_getElem? (i := 147) rfl)) rfl
set_option maxRecDepth 20000 in
theorem qcw_132 : Cond.code (qnm 132) (qB 132) (qml 132) (qret 132) ∈ qtb := qmemf (qsub_8 (List.mem_of_getElem? (i := 151) rfl)) rfl
set_option maxRecDepth 20000 in
theorem qcw_133 : Cond.code (qnm 133) (qB 133) (qml 133) (qret 133) ∈ qtb := qmemf (qsub_8 (List.mem_of_getElem? (i := 135) rfl)) rfl
set_option maxRecDepth 20000 in
theorem qcw_134 : Cond.code (qnm 134) (qB 134) (qml 134) (qret 134) ∈ qtb := qmemf (qsub_8 (List.mem_of_getElem? (i := 139) rfl)) rfl
set_option maxRecDepth 20000 in
theorem qcw_135 : Cond.code (qnm 135) (qB 135) (qml 135) (qret 135) ∈ qtb := qmemf (qsub_8 (List.mem_of_getElem? (i := 143) rfl)) rfl
set_option maxRecDepth 20000 in
theorem qcw_136 : Cond.code (qnm 136) (qB 136) (qml 136) (qret 136) ∈ qtb := qmemf (qsub_8 (List.mem_of_getElem? (i := 157) rfl)) rfl
set_option maxRecDepth 20000 in
theorem qcw_137 : Cond.code (qnm 137) (qB 137) (qml 137) (qret 137) ∈ qtb := qmemf (qsub_8 (List.mem_of_getElem? (i := 161) rfl)) rfl
set_option maxRecDepth 20000 in
theorem qcw_138 : Cond.code (qnm 138) (qB 138) (qml 138) (qret 138) ∈ qtb := qmemf (qsub_8 (List.mem_of_getElem? (i := 165) rfl)) rfl
set_option maxRecDepth 20000 in
theorem qcw_139 : Cond.code (qnm 139) (qB 139) (qml 139) (qret 139) ∈ qtb := qmemf (qsub_8 (List.mem_of_getElem? (i := 169) rfl)) rfl
set_option maxRecDepth 20000 in
theorem qcw_140 : Cond.code (qnm 140) (qB 140) (qml 140) (qret 140) ∈ qtb := qmemf (qsub_8 (List.mem_of_getElem? (i := 127) rfl)) rfl
set_option maxRecDepth 20000 in
theorem qcw_141 : Cond.code (qnm 141) (qB 141) (qml 141) (qret 141) ∈ qtb := qmemf (qsub_8 (List.mem_of_getElem? (i := 123) rfl)) rfl
set_option maxRecDepth 20000 in
theorem qcw_142 : Cond.code (qnm 142) (qB 142) (qml 142) (qret 142) ∈ qtb := qmemf (qsub_8 (List.mem_of_getElem? (i := 173) rfl)) rfl
set_option maxRecDepth 20000 in
theorem qcw_143 : Cond.code (qnm 143) (qB 143) (qml 143) (qret 143) ∈ qtb := qmemf (qsub_8 (List.mem_of_getElem? (i := 177) rfl)) rfl
set_option maxRecDepth 20000 in
theorem qcw_144 : Cond.code (qnm 144) (qB 144) (qml 144) (qret 144) ∈ qtb := qmemf (qsub_8 (List.mem_of_getElem? (i := 181) rfl)) rfl
set_option maxRecDepth 20000 in
theorem qcw_145 : Cond.code (qnm 145) (qB 145) (qml 145) (qret 145) ∈ qtb := qmemf (qsub_8 (List.mem_of_getElem? (i := 119) rfl)) rfl
set_option maxRecDepth 20000 in
theorem qcw_146 : Cond.code (qnm 146) (qB 146) (qml 146) (qret 146) ∈ qtb := qmemf (qsub_8 (List.mem_of_getElem? (i := 208) rfl)) rfl
set_option maxRecDepth 20000 in
theorem qcw_147 : Cond.code (qnm 147) (qB 147) (qml 147) (qret 147) ∈ qtb := qmemf (qsub_8 (List.mem_of_getElem? (i := 220) rfl)) rfl
set_option maxRecDepth 20000 in
theorem qcw_148 : Cond.code (qnm 148) (qB 148) (qml 148) (qret 148) ∈ qtb := qmemf (qsub_8 (List.mem_of_getElem? (i := 212) rfl)) rfl
set_option maxRecDepth 20000 in
theorem qcw_149 : Cond.code (qnm 149) (qB 149) (qml 149) (qret 149) ∈ qtb := qmemf (qsub_8 (List.mem_of_getElem? (i := 205) rfl)) rfl
set_option maxRecDepth 20000 in
theorem qcw_150 : Cond.code (qnm 150) (qB 150) (qml 150) (qret 150) ∈ qtb := qmemf (qsub_8 (List.mem_of_getElem? (i := 197) rfl)) rfl
set_option maxRecDepth 20000 in
theorem qcw_151 : Cond.code (qnm 151) (qB 151) (qml 151) (qret 151) ∈ qtb := qmemf (qsub_8 (List.mem_of_getElem? (i := 201) rfl)) rfl
set_option maxRecDepth 20000 in
theorem qcw_152 : Cond.code (qnm 152) (qB 152) (qml 152) (qret 152) ∈ qtb := qmemf (qsub_8 (List.mem_of_getElem? (i := 193) rfl)) rfl
set_option maxRecDepth 20000 in
theorem qcw_153 : Cond.code (qnm 153) (qB 153) (qml 153) (qret 153) ∈ qtb := qmemf (qsub_8 (List.mem_of_getElem? (i := 189) rfl)) rfl
set_option maxRecDepth 20000 in
theorem qcw_154 : Cond.code (qnm 154) (qB 154) (qml 154) (qret 154) ∈ qtb := qmemf (qsub_8 (List.mem_of_getElem? (i := 185) rfl)) rfl
set_option maxRecDepth 20000 in
theorem qcw_155 : Cond.code (qnm 155) (qB 155) (qml 155) (qret 155) ∈ qtb := qmemf (qsub_8 (List.mem_of_getElem? (i := 224) rfl)) rfl
set_option maxRecDepth 20000 in
theorem qcw_156 : Cond.code (qnm 156) (qB 156) (qml 156) (qret 156) ∈ qtb := qmemf (qsub_8 (List.mem_of_getElem? (i := 228) rfl)) rfl
set_option maxRecDepth 20000 in
theorem qcw_157 : Cond.code (qnm 157) (qB 157) (qml 157) (qret 157) ∈ qtb := qmemf (qsub_9 (List.mem_of_getElem? (i := 2) rfl)) rfl
set_option maxRecDepth 20000 in
theorem qcw_158 : Cond.code (qnm 158) (qB 158) (qml 158) (qret 158) ∈ qtb := qmemf (qsub_9 (List.mem_of_getElem? (i := 18) rfl)) rfl
set_option maxRecDepth 20000 in
theorem qcw_159 : Cond.code (qnm 159) (qB 159) (qml 159) (qret 159) ∈ qtb := qmemf (qsub_8 (List.mem_of_getElem? (i := 239) rfl)) rfl
set_option maxRecDepth 20000 in
theorem qcw_160 : Cond.code (qnm 160) (qB 160) (qml 160) (qret 160) ∈ qtb := qmemf (qsub_8 (List.mem_of_getElem? (i := 236) rfl)) rfl
set_option maxRecDepth 20000 in
theorem qcw_161 : Cond.code (qnm 161) (qB 161) (qml 161) (qret 161) ∈ qtb := qmemf (qsub_9 (List.mem_of_getElem? (i := 14) rfl)) rfl
set_option maxRecDepth 20000 in
theorem qcw_162 : Cond.code (qnm 162) (qB 162) (qml 162) (qret 162) ∈ qtb := qmemf (qsub_9 (List.mem_of_getElem? (i := 22) rfl)) rfl
set_option maxRecDepth 20000 in
theorem qcw_163 : Cond.code (qnm 163) (qB 163) (qml 163) (qret 163) ∈ qtb := qmemf (qsub_9 (List.mem_of_getElem? (i := 10) rfl)) rfl
set_option maxRecDepth 20000 in
theorem qcw_164 : Cond.code (qnm 164) (qB 164) (qml 164) (qret 164) ∈ qtb := qmemf (qsub_8 (List.mem_of_getElem? (i := 232) rfl)) rfl
set_option maxRecDepth 20000 in
theorem qcw_165 : Cond.code (qnm 165) (qB 165) (qml 165) (qret 165) ∈ qtb := qmemf (qsub_9 (List.mem_of_getElem? (i := 26) rfl)) rfl
set_option maxRecDepth 20000 in
theorem qcw_166 : Cond.code (qnm 166) (qB 166) (qml 166) (qret 166) ∈ qtb := qmemf (qsub_9 (List.mem_of_getElem? (i := 41) rfl)) rfl
set_option maxRecDepth 20000 in
theorem qcw_167 : Cond.code (qnm 167) (qB 167) (qml 167) (qret 167) ∈ qtb := qmemf (qsub_9 (List.mem_of_getElem? (i := 37) rfl)) rfl
set_option maxRecDepth 20000 in
theorem qcw_168 : Cond.code (qnm 168) (qB 168) (qml 168) (qret 168) ∈ qtb := qmemf (qsub_9 (List.mem_of_getElem? (i := 33) rfl)) rfl
set_option maxRecDepth 20000 in
theorem qcw_169 : Cond.code (qnm 169) (qB 169) (qml 169) (qret 169) ∈ qtb := qmemf (qsub_9 (List.mem_of_getElem? (i := 45) rfl)) rfl
set_option maxRecDepth 20000 in
theorem qcw_170 : Cond.code (qnm 170) (qB 170) (qml 170) (qret 170) ∈ qtb := qmemf (qsub_9 (List.mem_of_getElem? (i := 49) rfl)) rfl
set_option maxRecDepth 20000 in
theorem qcw_171 : Cond.code (qnm 171) (qB 171) (qml 171) (qret 171) ∈ qtb := qmemf (qsub_9 (List.mem_of_getElem? (i := 57) rfl)) rfl
set_option maxRecDepth 20000 in
theorem qcw_172 : Cond.code (qnm 172) (qB 172) (qml 172) (qret 172) ∈ qtb := qmemf (qsub_9 (List.mem_of_getElem? (i := 61) rfl)) rfl
set_option maxRecDepth 20000 in
theorem qcw_173 : Cond.code (qnm 173) (qB 173) (qml 173) (qret 173) ∈ qtb := qmemf (qsub_9 (List.mem_of_getElem? (i := 53) rfl)) rfl
set_option maxRecDepth 20000 in
theorem qcw_174 : Cond.code (qnm 174) (qB 174) (qml 174) (qret 174) ∈ qtb := qmemf (qsub_9 (List.mem_of_getElem? (i := 65) rfl)) rfl
set_option maxRecDepth 20000 in
theorem qcw_175 : Cond.code (qnm 175) (qB 175) (qml 175) (qret 175) ∈ qtb := qmemf (qsub_9 (List.mem_of_getElem? (i := 77) rfl)) rfl
set_option maxRecDepth 20000 in
theorem qcw_176 : Cond.code (qnm 176) (qB 176) (qml 176) (qret 176) ∈ qtb := qmemf (qsub_9 (List.mem_of_getElem? (i := 88) rfl)) rfl
set_option maxRecDepth 20000 in
theorem qcw_177 : Cond.code (qnm 177) (qB 177) (qml 177) (qret 177) ∈ qtb := qmemf (qsub_9 (List.mem_of_getElem? (i := 92) rfl)) rfl
set_option maxRecDepth 20000 in
theorem qcw_178 : Cond.code (qnm 178) (qB 178) (qml 178) (qret 178) ∈ qtb := qmemf (qsub_9 (List.mem_of_getElem? (i := 81) rfl)) rfl
set_option maxRecDepth 20000 in
theorem qcw_179 : Cond.code (qnm 179) (qB 179) (qml 179) (qret 179) ∈ qtb := qmemf (qsub_9 (List.mem_of_getElem? (i := 73) rfl)) rfl
set_option maxRecDepth 20000 in
theorem qcw_180 : Cond.code (qnm 180) (qB 180) (qml 180) (qret 180) ∈ qtb := qmemf (qsub_9 (List.mem_of_getElem? (i := 96) rfl)) rfl
set_option maxRecDepth 20000 in
theorem qcw_181 : Cond.code (qnm 181) (qB 181) (qml 181) (qret 181) ∈ qtb := qmemf (qsub_9 (List.mem_of_getElem? (i := 69) rfl)) rfl
set_option maxRecDepth 20000 in
theorem qcw_182 : Cond.code (qnm 182) (qB 182) (qml 182) (qret 182) ∈ qtb := qmemf (qsub_9 (List.mem_of_getElem? (i := 100) rfl)) rfl
set_option maxRecDepth 20000 in
theorem qcw_183 : Cond.code (qnm 183) (qB 183) (qml 183) (qret 183) ∈ qtb := qmemf (qsub_9 (List.mem_of_getElem? (i := 104) rfl)) rfl
set_option maxRecDepth 20000 in
theorem qcw_184 : Cond.code (qnm 184) (qB 184) (qml 184) (qret 184) ∈ qtb := qmemf (qsub_9 (List.mem_of_getElem? (i := 112) rfl)) rfl
set_option maxRecDepth 20000 in
theorem qcw_185 : Cond.code (qnm 185) (qB 185) (qml 185) (qret 185) ∈ qtb := qmemf (qsub_9 (List.mem_of_getElem? (i := 108) rfl)) rfl
set_option maxRecDepth 20000 in
theorem qcw_186 : Cond.code (qnm 186) (qB 186) (qml 186) (qret 186) ∈ qtb := qmemf (qsub_9 (List.mem_of_getElem? (i := 116) rfl)) rfl
set_option maxRecDepth 20000 in
theorem qcw_187 : Cond.code (qnm 187) (qB 187) (qml 187) (qret 187) ∈ qtb := qmemf (qsub_9 (List.mem_of_getElem? (i := 123) rfl)) rfl
set_option maxRecDepth 20000 in
theorem qcw_188 : Cond.code (qnm 188) (qB 188) (qml 188) (qret 188) ∈ qtb := qmemf (qsub_9 (List.mem_of_getElem? (i := 126) rfl)) rfl
set_option maxRecDepth 20000 in
theorem qcw_189 : Cond.code (qnm 189) (qB 189) (qml 189) (qret 189) ∈ qtb := qmemf (qsub_9 (List.mem_of_getElem? (i := 120) rfl)) rfl
set_option maxRecDepth 20000 in
theorem qcw_190 : Cond.code (qnm 190) (qB 190) (qml 190) (qret 190) ∈ qtb := qmemf (qsub_9 (List.mem_of_getElem? (i := 136) rfl)) rfl
set_option maxRecDepth 20000 in
theorem qcw_191 : Cond.code (qnm 191) (qB 191) (qml 191) (qret 191) ∈ qtb := qmemf (qsub_9 (List.mem_of_getElem? (i := 133) rfl)) rfl
set_option maxRecDepth 20000 in
theorem qcw_192 : Cond.code (qnm 192) (qB 192) (qml 192) (qret 192) ∈ qtb := qmemf (qsub_9 (List.mem_of_getElem? (i := 130) rfl)) rfl
set_option maxRecDepth 20000 in
theorem qcw_193 : Cond.code (qnm 193) (qB 193) (qml 193) (qret 193) ∈ qtb := qmemf (qsub_9 (List.mem_of_getElem? (i := 144) rfl)) rfl
set_option maxRecDepth 20000 in
theorem qcw_194 : Cond.code (qnm 194) (qB 194) (qml 194) (qret 194) ∈ qtb := qmemf (qsub_9 (List.mem_of_getElem? (i := 140) rfl)) rfl
set_option maxRecDepth 20000 in
theorem qcw_195 : Cond.code (qnm 195) (qB 195) (qml 195) (qret 195) ∈ qtb := qmemf (qsub_9 (List.mem_of_getElem? (i := 148) rfl)) rfl
set_option maxRecDepth 20000 in
theorem qcw_196 : Cond.code (qnm 196) (qB 196) (qml 196) (qret 196) ∈ qtb := qmemf (qsub_9 (List.mem_of_getElem? (i := 160) rfl)) rfl
set_option maxRecDepth 20000 in
theorem qcw_197 : Cond.code (qnm 197) (qB 197) (qml 197) (qret 197) ∈ qtb := qmemf (qsub_9 (List.mem_of_getElem? (i := 156) rfl)) rfl
set_option maxRecDepth 20000 in
theorem qcw_198 : Cond.code (qnm 198) (qB 198) (qml 198) (qret 198) ∈ qtb := qmemf (qsub_9 (List.mem_of_getElem? (i := 166) rfl)) rfl
set_option maxRecDepth 20000 in
theorem qcw_199 : Cond.code (qnm 199) (qB 199) (qml 199) (qret 199) ∈ qtb := qmemf (qsub_9 (List.mem_of_getElem? (i := 173) rfl)) rfl
set_option maxRecDepth 20000 in
theorem qcw_200 : Cond.code (qnm 200) (qB 200) (qml 200) (qret 200) ∈ qtb := qmemf (qsub_9 (List.mem_of_getElem? (i := 170) rfl)) rfl
set_option maxRecDepth 20000 in
theorem qcw_201 : Cond.code (qnm 201) (qB 201) (qml 201) (qret 201) ∈ qtb := qmemf (qsub_9 (List.mem_of_getElem? (i := 152) rfl)) rfl
set_option maxRecDepth 20000 in
theorem qcw_202 : Cond.code (qnm 202) (qB 202) (qml 202) (qret 202) ∈ qtb := qmemf (qsub_9 (List.mem_of_getElem? (i := 177) rfl)) rfl
set_option maxRecDepth 20000 in
theorem qcw_203 : Cond.code (qnm 203) (qB 203) (qml 203) (qret 203) ∈ qtb := qmemf (qsub_9 (List.mem_of_getElem? (i := 181) rfl)) rfl
set_option maxRecDepth 20000 in
theorem qcw_204 : Cond.code (qnm 204) (qB 204) (qml 204) (qret 204) ∈ qtb := qmemf (qsub_9 (List.mem_of_getElem? (i := 193) rfl)) rfl
set_option maxRecDepth 20000 in
theorem qcw_205 : Cond.code (qnm 205) (qB 205) (qml 205) (qret 205) ∈ qtb := qmemf (qsub_9 (List.mem_of_getElem? (i := 189) rfl)) rfl
set_option maxRecDepth 20000 in
theorem qcw_206 : Cond.code (qnm 206) (qB 206) (qml 206) (qret 206) ∈ qtb := qmemf (qsub_9 (List.mem_of_getElem? (i := 185) rfl)) rfl
set_option maxRecDepth 20000 in
theorem qcw_207 : Cond.code (qnm 207) (qB 207) (qml 207) (qret 207) ∈ qtb := qmemf (qsub_9 (List.mem_of_getElem? (i := 200) rfl)) rfl
set_option maxRecDepth 20000 in
theorem qcw_208 : Cond.code (qnm 208) (qB 208) (qml 208) (qret 208) ∈ qtb := qmemf (qsub_9 (List.mem_of_getElem? (i := 197) rfl)) rfl
set_option maxRecDepth 20000 in
theorem qcw_209 : Cond.code (qnm 209) (qB 209) (qml 209) (qret 209) ∈ qtb := qmemf (qsub_9 (List.mem_of_getElem? (i := 211) rfl)) rfl
set_option maxRecDepth 20000 in
theorem qcw_210 : Cond.code (qnm 210) (qB 210) (qml 210) (qret 210) ∈ qtb := qmemf (qsub_9 (List.mem_of_getElem? (i := 207) rfl)) rfl
set_option maxRecDepth 20000 in
theorem qcw_211 : Cond.code (qnm 211) (qB 211) (qml 211) (qret 211) ∈ qtb := qmemf (qsub_9 (List.mem_of_getElem? (i := 218) rfl)) rfl
set_option maxRecDepth 20000 in
theorem qcw_212 : Cond.code (qnm 212) (qB 212) (qml 212) (qret 212) ∈ qtb := qmemf (qsub_9 (List.mem_of_getElem? (i := 222) rfl)) rfl
set_option maxRecDepth 20000 in
theorem qcw_213 : Cond.code (qnm 213) (qB 213) (qml 213) (qret 213) ∈ qtb := qmemf (qsub_9 (List.mem_of_getElem? (i := 226) rfl)) rfl
set_option maxRecDepth 20000 in
theorem qcw_214 : Cond.code (qnm 214) (qB 214) (qml 214) (qret 214) ∈ qtb := qmemf (qsub_1 (List.mem_of_getElem? (i := 32) rfl)) rfl
set_option maxRecDepth 20000 in
theorem qcw_215 : Cond.code (qnm 215) (qB 215) (qml 215) (qret 215) ∈ qtb := qmemf (qsub_4 (List.mem_of_getElem? (i := 202) rfl)) rfl
set_option maxRecDepth 20000 in
theorem qcw_216 : Cond.code (qnm 216) (qB 216) (qml 216) (qret 216) ∈ qtb := qmemf (qsub_4 (List.mem_of_getElem? (i := 175) rfl)) rfl
set_option maxRecDepth 20000 in
theorem qcw_217 : Cond.code (qnm 217) (qB 217) (qml 217) (qret 217) ∈ qtb := qmemf (qsub_3 (List.mem_of_getElem? (i := 63) rfl)) rfl
set_option maxRecDepth 20000 in
theorem qcw_218 : Cond.code (qnm 218) (qB 218) (qml 218) (qret 218) ∈ qtb := qmemf (qsub_6 (List.mem_of_getElem? (i := 89) rfl)) rfl
set_option maxRecDepth 20000 in
theorem qcw_219 : Cond.code (qnm 219) (qB 219) (qml 219) (qret 219) ∈ qtb := qmemf (qsub_6 (List.mem_of_getElem? (i := 125) rfl)) rfl
set_option maxRecDepth 20000 in
theorem qcw_220 : Cond.code (qnm 220) (qB 220) (qml 220) (qret 220) ∈ qtb := qmemf (qsub_6 (List.mem_of_getElem? (i := 129) rfl)) rfl
set_option maxRecDepth 20000 in
theorem qcw_221 : Cond.code (qnm 221) (qB 221) (qml 221) (qret 221) ∈ qtb := qmemf (qsub_6 (List.mem_of_getElem? (i := 121) rfl)) rfl
set_option maxRecDepth 20000 in
theorem qcw_222 : Cond.code (qnm 222) (qB 222) (qml 222) (qret 222) ∈ qtb := qmemf (qsub_6 (List.mem_of_getElem? (i := 93) rfl)) rfl
set_option maxRecDepth 20000 in
theorem qcw_223 : Cond.code (qnm 223) (qB 223) (qml 223) (qret 223) ∈ qtb := qmemf (qsub_6 (List.mem_of_getElem? (i := 98) rfl)) rfl
set_option maxRecDepth 20000 in
theorem qcw_224 : Cond.code (qnm 224) (qB 224) (qml 224) (qret 224) ∈ qtb := qmemf (qsub_6 (List.mem_of_getElem? (i := 109) rfl)) rfl
set_option maxRecDepth 20000 in
theorem qcw_225 : Cond.code (qnm 225) (qB 225) (qml 225) (qret 225) ∈ qtb := qmemf (qsub_6 (List.mem_of_getElem? (i := 113) rfl)) rfl
set_option maxRecDepth 20000 in
theorem qcw_226 : Cond.code (qnm 226) (qB 226) (qml 226) (qret 226) ∈ qtb := qmemf (qsub_6 (List.mem_of_getElem? (i := 117) rfl)) rfl
set_option maxRecDepth 20000 in
theorem qcw_227 : Cond.code (qnm 227) (qB 227) (qml 227) (qret 227) ∈ qtb := qmemf (qsub_6 (List.mem_of_getElem? (i := 101) rfl)) rfl
set_option maxRecDepth 20000 in
theorem qcw_228 : Cond.code (qnm 228) (qB 228) (qml 228) (qret 228) ∈ qtb := qmemf (qsub_2 (List.mem_of_getElem? (i := 70) rfl)) rfl
set_option maxRecDepth 20000 in
theorem qcw_229 : Cond.code (qnm 229) (qB 229) (qml 229) (qret 229) ∈ qtb := qmemf (qsub_5 (List.mem_of_getElem? (i := 143) rfl)) rfl
set_option maxRecDepth 20000 in
theorem qcw_230 : Cond.code (qnm 230) (qB 230) (qml 230) (qret 230) ∈ qtb := qmemf (qsub_5 (List.mem_of_getElem? (i := 220) rfl)) rfl
set_option maxRecDepth 20000 in
theorem qcw_231 : Cond.code (qnm 231) (qB 231) (qml 231) (qret 231) ∈ qtb := qmemf (qsub_5 (List.mem_of_getElem? (i := 151) rfl)) rfl
set_option maxRecDepth 20000 in
theorem qcw_232 : Cond.code (qnm 232) (qB 232) (qml 232) (qret 232) ∈ qtb := qmemf (qsub_5 (List.mem_of_getElem? (i := 157) rfl)) rfl
set_option maxRecDepth 20000 in
theorem qcw_233 : Cond.code (qnm 233) (qB 233) (qml 233) (qret 233) ∈ qtb := qmemf (qsub_5 (List.mem_of_getElem? (i := 167) rfl)) rfl
set_option maxRecDepth 20000 in
theorem qcw_234 : Cond.code (qnm 234) (qB 234) (qml 234) (qret 234) ∈ qtb := qmemf (qsub_5 (List.mem_of_getElem? (i := 171) rfl)) rfl
set_option maxRecDepth 20000 in
theorem qcw_235 : Cond.code (qnm 235) (qB 235) (qml 235) (qret 235) ∈ qtb := qmemf (qsub_5 (List.mem_of_getElem? (i := 209) rfl)) rfl
set_option maxRecDepth 20000 in
theorem qcw_236 : Cond.code (qnm 236) (qB 236) (qml 236) (qret 236) ∈ qtb := qmemf (qsub_5 (List.mem_of_getElem? (i := 214) rfl)) rfl
set_option maxRecDepth 20000 in
theorem qcw_237 : Cond.code (qnm 237) (qB 237) (qml 237) (qret 237) ∈ qtb := qmemf (qsub_5 (List.mem_of_getElem? (i := 229) rfl)) rfl
set_option maxRecDepth 20000 in
theorem qcw_238 : Cond.code (qnm 238) (qB 238) (qml 238) (qret 238) ∈ qtb := qmemf (qsub_5 (List.mem_of_getElem? (i := 238) rfl)) rfl
set_option maxRecDepth 20000 in
theorem qcw_239 : Cond.code (qnm 239) (qB 239) (qml 239) (qret 239) ∈ qtb := qmemf (qsub_6 (List.mem_of_getElem? (i := 2) rfl)) rfl
set_option maxRecDepth 20000 in
theorem qcw_240 : Cond.code (qnm 240) (qB 240) (qml 240) (qret 240) ∈ qtb := qmemf (qsub_6 (List.mem_of_getElem? (i := 6) rfl)) rfl
set_option maxRecDepth 20000 in
theorem qcw_241 : Cond.code (qnm 241) (qB 241) (qml 241) (qret 241) ∈ qtb := qmemf (qsub_6 (List.mem_of_getElem? (i := 10) rfl)) rfl
set_option maxRecDepth 20000 in
theorem qcw_242 : Cond.code (qnm 242) (qB 242) (qml 242) (qret 242) ∈ qtb := qmemf (qsub_6 (List.mem_of_getElem? (i := 14) rfl)) rfl
set_option maxRecDepth 20000 in
theorem qcw_243 : Cond.code (qnm 243) (qB 243) (qml 243) (qret 243) ∈ qtb := qmemf (qsub_6 (List.mem_of_getElem? (i := 19) rfl)) rfl
set_option maxRecDepth 20000 in
theorem qcw_244 : Cond.code (qnm 244) (qB 244) (qml 244) (qret 244) ∈ qtb := qmemf (qsub_6 (List.mem_of_getElem? (i := 35) rfl)) rfl
set_option maxRecDepth 20000 in
theorem qcw_245 : Cond.code (qnm 245) (qB 245) (qml 245) (qret 245) ∈ qtb := qmemf (qsub_6 (List.mem_of_getElem? (i := 44) rfl)) rfl
set_option maxRecDepth 20000 in
theorem qcw_246 : Cond.code (qnm 246) (qB 246) (qml 246) (qret 246) ∈ qtb := qmemf (qsub_3 (List.mem_of_getElem? (i := 20) rfl)) rfl
set_option maxRecDepth 20000 in
theorem qcw_247 : Cond.code (qnm 247) (qB 247) (qml 247) (qret 247) ∈ qtb := qmemf (qsub_4 (List.mem_of_getElem? (i := 171) rfl)) rfl
set_option maxRecDepth 20000 in
theorem qcw_248 : Cond.code (qnm 248) (qB 248) (qml 248) (qret 248) ∈ qtb := qmemf (qsub_5 (List.mem_of_getElem? (i := 98) rfl)) rfl
set_option maxRecDepth 20000 in
theorem qcw_249 : Cond.code (qnm 249) (qB 249) (qml 249) (qret 249) ∈ qtb := qmemf (qsub_4 (List.mem_of_getElem? (i := 194) rfl)) rfl
set_option maxRecDepth 20000 in
theorem qcw_250 : Cond.code (qnm 250) (qB 250) (qml 250) (qret 250) ∈ qtb := qmemf (qsub_4 (List.mem_of_getElem? (i := 198) rfl)) rfl
set_option maxRecDepth 20000 in
theorem qcw_251 : Cond.code (qnm 251) (qB 251) (qml 251) (qret 251) ∈ qtb := qmemf (qsub_4 (List.mem_of_getElem? (i := 219) rfl)) rfl
set_option maxRecDepth 20000 in
theorem qcw_252 : Cond.code (qnm 252) (qB 252) (qml 252) (qret 252) ∈ qtb := qmemf (qsub_4 (List.mem_of_getElem? (i := 224) rfl)) rfl
set_option maxRecDepth 20000 in
theorem qcw_253 : Cond.code (qnm 253) (qB 253) (qml 253) (qret 253) ∈ qtb := qmemf (qsub_4 (List.mem_of_getElem? (i := 231) rfl)) rfl
set_option maxRecDepth 20000 in
theorem qcw_254 : Cond.code (qnm 254) (qB 254) (qml 254) (qret 254) ∈ qtb := qmemf (qsub_1 (List.mem_of_getElem? (i := 200) rfl)) rfl
set_option maxRecDepth 20000 in
theorem qcw_255 : Cond.code (qnm 255) (qB 255) (qml 255) (qret 255) ∈ qtb := qmemf (qsub_4 (List.mem_of_getElem? (i := 185) rfl)) rfl
set_option maxRecDepth 20000 in
theorem qcw_256 : Cond.code (qnm 256) (qB 256) (qml 256) (qret 256) ∈ qtb := qmemf (qsub_5 (List.mem_of_getElem? (i := 66) rfl)) rfl
set_option maxRecDepth 20000 in
theorem qcw_257 : Cond.code (qnm 257) (qB 257) (qml 257) (qret 257) ∈ qtb := qmemf (qsub_5 (List.mem_of_getElem? (i := 40) rfl)) rfl
set_option maxRecDepth 20000 in
theorem qcw_258 : Cond.code (qnm 258) (qB 258) (qml 258) (qret 258) ∈ qtb := qmemf (qsub_5 (List.mem_of_getElem? (i := 44) rfl)) rfl
set_option maxRecDepth 20000 in
theorem qcw_259 : Cond.code (qnm 259) (qB 259) (qml 259) (qret 259) ∈ qtb := qmemf (qsub_5 (List.mem_of_getElem? (i := 48) rfl)) rfl
set_option maxRecDepth 20000 in
theorem qcw_260 : Cond.code (qnm 260) (qB 260) (qml 260) (qret 260) ∈ qtb := qmemf (qsub_1 (List.mem_of_getElem? (i := 38) rfl)) rfl
set_option maxRecDepth 20000 in
theorem qcw_261 : Cond.code (qnm 261) (qB 261) (qml 261) (qret 261) ∈ qtb := qmemf (qsub_3 (List.mem_of_getElem? (i := 175) rfl)) rfl
set_option maxRecDepth 20000 in
theorem qcw_262 : Cond.code (qnm 262) (qB 262) (qml 262) (qret 262) ∈ qtb := qmemf (qsub_3 (List.mem_of_getElem? (i := 203) rfl)) rfl
set_option maxRecDepth 20000 in
theorem qcw_263 : Cond.code (qnm 263) (qB 263) (qml 263) (qret 263) ∈ qtb := qmemf (qsub_5 (List.mem_of_getElem? (i := 58) rfl)) rfl
set_option maxRecDepth 20000 in
theorem qcw_264 : Cond.code (qnm 264) (qB 264) (qml 264) (qret 264) ∈ qtb := qmemf (qsub_4 (List.mem_of_getElem? (i := 206) rfl)) rfl
set_option maxRecDepth 20000 in
theorem qcw_265 : Cond.code (qnm 265) (qB 265) (qml 265) (qret 265) ∈ qtb := qmemf (qsub_4 (List.mem_of_getElem? (i := 179) rfl)) rfl
set_option maxRecDepth 20000 in
theorem qcw_266 : Cond.code (qnm 266) (qB 266) (qml 266) (qret 266) ∈ qtb := qmemf (qsub_2 (List.mem_of_getElem? (i := 183) rfl)) rfl
set_option maxRecDepth 20000 in
theorem qcw_267 : Cond.code (qnm 267) (qB 267) (qml 267) (qret 267) ∈ qtb := qmemf (qsub_4 (List.mem_of_getElem? (i := 7) rfl)) rfl
set_option maxRecDepth 20000 in
theorem qcw_268 : Cond.code (qnm 268) (qB 268) (qml 268) (qret 268) ∈ qtb := qmemf (qsub_4 (List.mem_of_getElem? (i := 11) rfl)) rfl
set_option maxRecDepth 20000 in
theorem qcw_269 : Cond.code (qnm 269) (qB 269) (qml 269) (qret 269) ∈ qtb := qmemf (qsub_4 (List.mem_of_getElem? (i := 14) rfl)) rfl
set_option maxRecDepth 20000 in
theorem qcw_270 : Cond.code (qnm 270) (qB 270) (qml 270) (qret 270) ∈ qtb := qmemf (qsub_4 (List.mem_of_getElem? (i := 18) rfl)) rfl
set_option maxRecDepth 20000 in
theorem qcw_271 : Cond.code (qnm 271) (qB 271) (qml 271) (qret 271) ∈ qtb := qmemf (qsub_4 (List.mem_of_getElem? (i := 24) rfl)) rfl
set_option maxRecDepth 20000 in
theorem qcw_272 : Cond.code (qnm 272) (qB 272) (qml 272) (qret 272) ∈ qtb := qmemf (qsub_4 (List.mem_of_getElem? (i := 76) rfl)) rfl
set_option maxRecDepth 20000 in
theorem qcw_273 : Cond.code (qnm 273) (qB 273) (qml 273) (qret 273) ∈ qtb := qmemf (qsub_4 (List.mem_of_getElem? (i := 99) rfl)) rfl
set_option maxRecDepth 20000 in
theorem qcw_274 : Cond.code (qnm 274) (qB 274) (qml 274) (qret 274) ∈ qtb := qmemf (qsub_4 (List.mem_of_getElem? (i := 87) rfl)) rfl
set_option maxRecDepth 20000 in
theorem qcw_275 : Cond.code (qnm 275) (qB 275) (qml 275) (qret 275) ∈ qtb := qmemf (qsub_4 (List.mem_of_getElem? (i := 149) rfl)) rfl
set_option maxRecDepth 20000 in
theorem qcw_276 : Cond.code (qnm 276) (qB 276) (qml 276) (qret 276) ∈ qtb := qmemf (qsub_4 (List.mem_of_getElem? (i := 95) rfl)) rfl
set_option maxRecDepth 20000 in
theorem qcw_277 : Cond.code (qnm 277) (qB 277) (qml 277) (qret 277) ∈ qtb := qmemf (qsub_4 (List.mem_of_getElem? (i := 153) rfl)) rfl
set_option maxRecDepth 20000 in
theorem qcw_278 : Cond.code (qnm 278) (qB 278) (qml 278) (qret 278) ∈ qtb := qmemf (qsub_4 (List.mem_of_getElem? (i := 129) rfl)) rfl
set_option maxRecDepth 20000 in
theorem qcw_279 : Cond.code (qnm 279) (qB 279) (qml 279) (qret 279) ∈ qtb := qmemf (qsub_4 (List.mem_of_getElem? (i := 133) rfl)) rfl
set_option maxRecDepth 20000 in
theorem qcw_280 : Cond.code (qnm 280) (qB 280) (qml 280) (qret 280) ∈ qtb := qmemf (qsub_4 (List.mem_of_getElem? (i := 137) rfl)) rfl
set_option maxRecDepth 20000 in
theorem qcw_281 : Cond.code (qnm 281) (qB 281) (qml 281) (qret 281) ∈ qtb := qmemf (qsub_4 (List.mem_of_getElem? (i := 103) rfl)) rfl
set_option maxRecDepth 20000 in
theorem qcw_282 : Cond.code (qnm 282) (qB 282) (qml 282) (qret 282) ∈ qtb := qmemf (qsub_4 (List.mem_of_getElem? (i := 140) rfl)) rfl
set_option maxRecDepth 20000 in
theorem qcw_283 : Cond.code (qnm 283) (qB 283) (qml 283) (qret 283) ∈ qtb := qmemf (qsub_4 (List.mem_of_getElem? (i := 122) rfl)) rfl
set_option maxRecDepth 20000 in
theorem qcw_284 : Cond.code (qnm 284) (qB 284) (qml 284) (qret 284) ∈ qtb := qmemf (qsub_4 (List.mem_of_getElem? (i := 125) rfl)) rfl
set_option maxRecDepth 20000 in
theorem qcw_285 : Cond.code (qnm 285) (qB 285) (qml 285) (qret 285) ∈ qtb := qmemf (qsub_4 (List.mem_of_getElem? (i := 107) rfl)) rfl
set_option maxRecDepth 20000 in
theorem qcw_286 : Cond.code (qnm 286) (qB 286) (qml 286) (qret 286) ∈ qtb := qmemf (qsub_4 (List.mem_of_getElem? (i := 111) rfl)) rfl
set_option maxRecDepth 20000 in
theorem qcw_287 : Cond.code (qnm 287) (qB 287) (qml 287) (qret 287) ∈ qtb := qmemf (qsub_4 (List.mem_of_getElem? (i := 115) rfl)) rfl
set_option maxRecDepth 20000 in
theorem qcw_288 : Cond.code (qnm 288) (qB 288) (qml 288) (qret 288) ∈ qtb := qmemf (qsub_1 (List.mem_of_getElem? (i := 236) rfl)) rfl
set_option maxRecDepth 20000 in
theorem qcw_289 : Cond.code (qnm 289) (qB 289) (qml 289) (qret 289) ∈ qtb := qmemf (qsub_5 (List.mem_of_getElem? (i := 9) rfl)) rfl
set_option maxRecDepth 20000 in
theorem qcw_290 : Cond.code (qnm 290) (qB 290) (qml 290) (qret 290) ∈ qtb := qmemf (qsub_5 (List.mem_of_getElem? (i := 25) rfl)) rfl
set_option maxRecDepth 20000 in
theorem qcw_291 : Cond.code (qnm 291) (qB 291) (qml 291) (qret 291) ∈ qtb := qmemf (qsub_5 (List.mem_of_getElem? (i := 5) rfl)) rfl
set_option maxRecDepth 20000 in
theorem qcw_292 : Cond.code (qnm 292) (qB 292) (qml 292) (qret 292) ∈ qtb := qmemf (qsub_5 (List.mem_of_getElem? (i := 162) rfl)) rfl
set_option maxRecDepth 20000 in
theorem qcw_293 : Cond.code (qnm 293) (qB 293) (qml 293) (qret 293) ∈ qtb := qmemf (qsub_5 (List.mem_of_getElem? (i := 29) rfl)) rfl
set_option maxRecDepth 20000 in
theorem qcw_294 : Cond.code (qnm 294) (qB 294) (qml 294) (qret 294) ∈ qtb := qmemf (qsub_5 (List.mem_of_getElem? (i := 33) rfl)) rfl
set_option maxRecDepth 20000 in
theorem qcw_295 : Cond.code (qnm 295) (qB 295) (qml 295) (qret 295) ∈ qtb := qmemf (qsub_5 (List.mem_of_getElem? (i := 62) rfl)) rfl
set_option maxRecDepth 20000 in
theorem qcw_296 : Cond.code (qnm 296) (qB 296) (qml 296) (qret 296) ∈ qtb := qmemf (qsub_5 (List.mem_of_getElem? (i := 75) rfl)) rfl
set_option maxRecDepth 20000 in
theorem qcw_297 : Cond.code (qnm 297) (qB 297) (qml 297) (qret 297) ∈ qtb := qmemf (qsub_5 (List.mem_of_getElem? (i := 88) rfl)) rfl
set_option maxRecDepth 20000 in
theorem qcw_298 : Cond.code (qnm 298) (qB 298) (qml 298) (qret 298) ∈ qtb := qmemf (qsub_5 (List.mem_of_getElem? (i := 54) rfl)) rfl
set_option maxRecDepth 20000 in
theorem qcw_299 : Cond.code (qnm 299) (qB 299) (qml 299) (qret 299) ∈ qtb := qmemf (qsub_5 (List.mem_of_getElem? (i := 71) rfl)) rfl
set_option maxRecDepth 20000 in
theorem qcw_300 : Cond.code (qnm 300) (qB 300) (qml 300) (qret 300) ∈ qtb := qmemf (qsub_5 (List.mem_of_getElem? (i := 79) rfl)) rfl
set_option maxRecDepth 20000 in
theorem qcw_301 : Cond.code (qnm 301) (qB 301) (qml 301) (qret 301) ∈ qtb := qmemf (qsub_5 (List.mem_of_getElem? (i := 84) rfl)) rfl
set_option maxRecDepth 20000 in
theorem qcw_302 : Cond.code (qnm 302) (qB 302) (qml 302) (qret 302) ∈ qtb := qmemf (qsub_2 (List.mem_of_getElem? (i := 145) rfl)) rfl
set_option maxRecDepth 20000 in
theorem qcw_303 : Cond.code (qnm 303) (qB 303) (qml 303) (qret 303) ∈ qtb := qmemf (qsub_4 (List.mem_of_getElem? (i := 235) rfl)) rfl
set_option maxRecDepth 20000 in
theorem qcw_304 : Cond.code (qnm 304) (qB 304) (qml 304) (qret 304) ∈ qtb := qmemf (qsub_5 (List.mem_of_getElem? (i := 94) rfl)) rfl
set_option maxRecDepth 20000 in
theorem qcw_305 : Cond.code (qnm 305) (qB 305) (qml 305) (qret 305) ∈ qtb := qmemf (qsub_5 (List.mem_of_getElem? (i := 197) rfl)) rfl
set_option maxRecDepth 20000 in
theorem qcw_306 : Cond.code (qnm 306) (qB 306) (qml 306) (qret 306) ∈ qtb := qmemf (qsub_4 (List.mem_of_getElem? (i := 239) rfl)) rfl
set_option maxRecDepth 20000 in
theorem qcw_307 : Cond.code (qnm 307) (qB 307) (qml 307) (qret 307) ∈ qtb := qmemf (qsub_2 (List.mem_of_getElem? (i := 189) rfl)) rfl
set_option maxRecDepth 20000 in
theorem qcw_308 : Cond.code (qnm 308) (qB 308) (qml 308) (qret 308) ∈ qtb := qmemf (qsub_4 (List.mem_of_getElem? (i := 83) rfl)) rfl
set_option maxRecDepth 20000 in
theorem qcw_309 : Cond.code (qnm 309) (qB 309) (qml 309) (qret 309) ∈ qtb := qmemf (qsub_4 (List.mem_of_getElem? (i := 91) rfl)) rfl
set_option maxRecDepth 20000 in
theorem qcw_310 : Cond.code (qnm 310) (qB 310) (qml 310) (qret 310) ∈ qtb := qmemf (qsub_4 (List.mem_of_getElem? (i := 119) rfl)) rfl
set_option maxRecDepth 20000 in
theorem qcw_311 : Cond.code (qnm 311) (qB 311) (qml 311) (qret 311) ∈ qtb := qmemf (qsub_4 (List.mem_of_getElem? (i := 144) rfl)) rfl
set_option maxRecDepth 20000 in
theorem qcw_312 : Cond.code (qnm 312) (qB 312) (qml 312) (qret 312) ∈ qtb := qmemf (qsub_4 (List.mem_of_getElem? (i := 157) rfl)) rfl
set_option maxRecDepth 20000 in
theorem qcw_313 : Cond.code (qnm 313) (qB 313) (qml 313) (qret 313) ∈ qtb := qmemf (qsub_4 (List.mem_of_getElem? (i := 190) rfl)) rfl
set_option maxRecDepth 20000 in
theorem qcw_314 : Cond.code (qnm 314) (qB 314) (qml 314) (qret 314) ∈ qtb := qmemf (qsub_4 (List.mem_of_getElem? (i := 210) rfl)) rfl
set_option maxRecDepth 20000 in
theorem qcw_329 : Cond.code (qnm 329) (qB 329) (qml 329) (qret 329) ∈ qtb := qmemf (qsub_3 (List.mem_of_getElem? (i := 87) rfl)) rfl
