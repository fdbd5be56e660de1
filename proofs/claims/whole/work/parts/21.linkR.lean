def tL0 : List (Nat × Cond) := [(1682, .methodLink RX12 1 Lib.objectInit), (1684, .fieldLink RX12 7 "DrizzleVoteModel" "m" "[I"), (1685, .fieldLink RX12 13 "DrizzleVoteModel" "kept" "[I"), (1687, .fieldLink RX12 16 "DrizzleVoteModel" "aside" "[I"), (1688, .fieldLink RX12 19 "DrizzleVoteModel" "acts" "[I"), (1690, .fieldLink RX12 22 "DrizzleVoteModel" "tape" "[I"), (1695, .fieldLink RX12 25 "DrizzleVoteModel" "fault" "I"), (1697, .fieldLink RX12 29 "DrizzleVoteModel" "fact" "[I"), (1703, .fieldLink RX12 32 "DrizzleVoteModel" "chances" "[I"), (1704, .fieldLink RX12 35 "DrizzleVoteModel" "nexts" "[I"), (1705, .fieldLink RX12 38 "DrizzleVoteModel" "ways" "[J"), (1706, .fieldLink RX12 42 "DrizzleVoteModel" "then" "[J"), (1707, .fieldLink RX12 45 "DrizzleVoteModel" "wide" "[I"), (1683, .fieldLink RX12 48 "DrizzleVoteModel" "thrown" "I"), (1776, .static yX12_isIn), (1775, .methodLink RX12 51 yX12_isIn), (1957, .methodLink RX12 55 yX12_ofMotion), (1959, .instanceMethod yX12_ofMotion), (70, .selects RX12 yX12_ofMotion yX12_ofMotion), (1983, .methodLink RX12 59 yX12_weight), (1985, .instanceMethod yX12_weight), (73, .selects RX12 yX12_weight yX12_weight), (1949, .methodLink RX12 62 yX12_of), (1951, .instanceMethod yX12_of)]
set_option maxRecDepth 100000 in
theorem tK0 : ∀ q ∈ tL0, lw_tbl[q.1]? = some q.2 ∧ goodWord q.2 = true := by decide +kernel
theorem t0 : .methodLink RX12 1 Lib.objectInit ∈ zTg := zin_of (tK0 _ (List.mem_of_getElem? (i := 0) (show tL0[0]? = some (1682, .methodLink RX12 1 Lib.objectInit) from rfl)))
theorem t1 : .fieldLink RX12 7 "DrizzleVoteModel" "m" "[I" ∈ zTg := zin_of (tK0 _ (List.mem_of_getElem? (i := 1) (show tL0[1]? = some (1684, .fieldLink RX12 7 "DrizzleVoteModel" "m" "[I") from rfl)))
theorem t2 : .fieldLink RX12 13 "DrizzleVoteModel" "kept" "[I" ∈ zTg := zin_of (tK0 _ (List.mem_of_getElem? (i := 2) (show tL0[2]? = some (1685, .fieldLink RX12 13 "DrizzleVoteModel" "kept" "[I") from rfl)))
theorem t3 : .fieldLink RX12 16 "DrizzleVoteModel" "aside" "[I" ∈ zTg := zin_of (tK0 _ (List.mem_of_getElem? (i := 3) (show tL0[3]? = some (1687, .fieldLink RX12 16 "DrizzleVoteModel" "aside" "[I") from rfl)))
theorem t4 : .fieldLink RX12 19 "DrizzleVoteModel" "acts" "[I" ∈ zTg := zin_of (tK0 _ (List.mem_of_getElem? (i := 4) (show tL0[4]? = some (1688, .fieldLink RX12 19 "DrizzleVoteModel" "acts" "[I") from rfl)))
theorem t5 : .fieldLink RX12 22 "DrizzleVoteModel" "tape" "[I" ∈ zTg := zin_of (tK0 _ (List.mem_of_getElem? (i := 5) (show tL0[5]? = some (1690, .fieldLink RX12 22 "DrizzleVoteModel" "tape" "[I") from rfl)))
theorem t6 : .fieldLink RX12 25 "DrizzleVoteModel" "fault" "I" ∈ zTg := zin_of (tK0 _ (List.mem_of_getElem? (i := 6) (show tL0[6]? = some (1695, .fieldLink RX12 25 "DrizzleVoteModel" "fault" "I") from rfl)))
theorem t7 : .fieldLink RX12 29 "DrizzleVoteModel" "fact" "[I" ∈ zTg := zin_of (tK0 _ (List.mem_of_getElem? (i := 7) (show tL0[7]? = some (1697, .fieldLink RX12 29 "DrizzleVoteModel" "fact" "[I") from rfl)))
theorem t8 : .fieldLink RX12 32 "DrizzleVoteModel" "chances" "[I" ∈ zTg := zin_of (tK0 _ (List.mem_of_getElem? (i := 8) (show tL0[8]? = some (1703, .fieldLink RX12 32 "DrizzleVoteModel" "chances" "[I") from rfl)))
theorem t9 : .fieldLink RX12 35 "DrizzleVoteModel" "nexts" "[I" ∈ zTg := zin_of (tK0 _ (List.mem_of_getElem? (i := 9) (show tL0[9]? = some (1704, .fieldLink RX12 35 "DrizzleVoteModel" "nexts" "[I") from rfl)))
theorem t10 : .fieldLink RX12 38 "DrizzleVoteModel" "ways" "[J" ∈ zTg := zin_of (tK0 _ (List.mem_of_getElem? (i := 10) (show tL0[10]? = some (1705, .fieldLink RX12 38 "DrizzleVoteModel" "ways" "[J") from rfl)))
theorem t11 : .fieldLink RX12 42 "DrizzleVoteModel" "then" "[J" ∈ zTg := zin_of (tK0 _ (List.mem_of_getElem? (i := 11) (show tL0[11]? = some (1706, .fieldLink RX12 42 "DrizzleVoteModel" "then" "[J") from rfl)))
theorem t12 : .fieldLink RX12 45 "DrizzleVoteModel" "wide" "[I" ∈ zTg := zin_of (tK0 _ (List.mem_of_getElem? (i := 12) (show tL0[12]? = some (1707, .fieldLink RX12 45 "DrizzleVoteModel" "wide" "[I") from rfl)))
theorem t13 : .fieldLink RX12 48 "DrizzleVoteModel" "thrown" "I" ∈ zTg := zin_of (tK0 _ (List.mem_of_getElem? (i := 13) (show tL0[13]? = some (1683, .fieldLink RX12 48 "DrizzleVoteModel" "thrown" "I") from rfl)))
theorem t14 : .static yX12_isIn ∈ zTg := zin_of (tK0 _ (List.mem_of_getElem? (i := 14) (show tL0[14]? = some (1776, .static yX12_isIn) from rfl)))
theorem t15 : .methodLink RX12 51 yX12_isIn ∈ zTg := zin_of (tK0 _ (List.mem_of_getElem? (i := 15) (show tL0[15]? = some (1775, .methodLink RX12 51 yX12_isIn) from rfl)))
theorem t16 : .methodLink RX12 55 yX12_ofMotion ∈ zTg := zin_of (tK0 _ (List.mem_of_getElem? (i := 16) (show tL0[16]? = some (1957, .methodLink RX12 55 yX12_ofMotion) from rfl)))
theorem t17 : .instanceMethod yX12_ofMotion ∈ zTg := zin_of (tK0 _ (List.mem_of_getElem? (i := 17) (show tL0[17]? = some (1959, .instanceMethod yX12_ofMotion) from rfl)))
theorem t18 : .selects RX12 yX12_ofMotion yX12_ofMotion ∈ zTg := zin_of (tK0 _ (List.mem_of_getElem? (i := 18) (show tL0[18]? = some (70, .selects RX12 yX12_ofMotion yX12_ofMotion) from rfl)))
theorem t19 : .methodLink RX12 59 yX12_weight ∈ zTg := zin_of (tK0 _ (List.mem_of_getElem? (i := 19) (show tL0[19]? = some (1983, .methodLink RX12 59 yX12_weight) from rfl)))
theorem t20 : .instanceMethod yX12_weight ∈ zTg := zin_of (tK0 _ (List.mem_of_getElem? (i := 20) (show tL0[20]? = some (1985, .instanceMethod yX12_weight) from rfl)))
theorem t21 : .selects RX12 yX12_weight yX12_weight ∈ zTg := zin_of (tK0 _ (List.mem_of_getElem? (i := 21) (show tL0[21]? = some (73, .selects RX12 yX12_weight yX12_weight) from rfl)))
theorem t22 : .methodLink RX12 62 yX12_of ∈ zTg := zin_of (tK0 _ (List.mem_of_getElem? (i := 22) (show tL0[22]? = some (1949, .methodLink RX12 62 yX12_of) from rfl)))
theorem t23 : .instanceMethod yX12_of ∈ zTg := zin_of (tK0 _ (List.mem_of_getElem? (i := 23) (show tL0[23]? = some (1951, .instanceMethod yX12_of) from rfl)))
def tL1 : List (Nat × Cond) := [(68, .selects RX12 yX12_of yX12_of), (1691, .fieldLink RX12 65 "DrizzleVoteModel" "taped" "I"), (1692, .fieldLink RX12 68 "DrizzleVoteModel" "base" "I"), (1694, .fieldLink RX12 71 "DrizzleVoteModel" "at" "I"), (1693, .fieldLink RX12 74 "DrizzleVoteModel" "end" "I"), (1798, .methodLink RX12 77 yX12_letter), (1800, .instanceMethod yX12_letter), (42, .selects RX12 yX12_letter yX12_letter), (1794, .methodLink RX12 81 yX12_skip), (1796, .instanceMethod yX12_skip), (41, .selects RX12 yX12_skip yX12_skip), (1815, .methodLink RX12 84 yJ0_length_8abf5), (840, .instanceMethod yJ0_length_8abf5), (841, .selects RJ0 yJ0_length_8abf5 yJ0_length_8abf5), (1816, .methodLink RX12 90 yJ0_charAt_5068e), (850, .instanceMethod yJ0_charAt_5068e), (851, .selects RJ0 yJ0_charAt_5068e yJ0_charAt_5068e), (1823, .methodLink RX12 94 yX12_here), (1825, .instanceMethod yX12_here), (47, .selects RX12 yX12_here yX12_here), (1802, .methodLink RX12 97 yX12_wrong), (1804, .instanceMethod yX12_wrong), (43, .selects RX12 yX12_wrong yX12_wrong), (1811, .methodLink RX12 101 yX12_has)]
set_option maxRecDepth 100000 in
theorem tK1 : ∀ q ∈ tL1, lw_tbl[q.1]? = some q.2 ∧ goodWord q.2 = true := by decide +kernel
theorem t24 : .selects RX12 yX12_of yX12_of ∈ zTg := zin_of (tK1 _ (List.mem_of_getElem? (i := 0) (show tL1[0]? = some (68, .selects RX12 yX12_of yX12_of) from rfl)))
theorem t25 : .fieldLink RX12 65 "DrizzleVoteModel" "taped" "I" ∈ zTg := zin_of (tK1 _ (List.mem_of_getElem? (i := 1) (show tL1[1]? = some (1691, .fieldLink RX12 65 "DrizzleVoteModel" "taped" "I") from rfl)))
theorem t26 : .fieldLink RX12 68 "DrizzleVoteModel" "base" "I" ∈ zTg := zin_of (tK1 _ (List.mem_of_getElem? (i := 2) (show tL1[2]? = some (1692, .fieldLink RX12 68 "DrizzleVoteModel" "base" "I") from rfl)))
theorem t27 : .fieldLink RX12 71 "DrizzleVoteModel" "at" "I" ∈ zTg := zin_of (tK1 _ (List.mem_of_getElem? (i := 3) (show tL1[3]? = some (1694, .fieldLink RX12 71 "DrizzleVoteModel" "at" "I") from rfl)))
theorem t28 : .fieldLink RX12 74 "DrizzleVoteModel" "end" "I" ∈ zTg := zin_of (tK1 _ (List.mem_of_getElem? (i := 4) (show tL1[4]? = some (1693, .fieldLink RX12 74 "DrizzleVoteModel" "end" "I") from rfl)))
theorem t29 : .methodLink RX12 77 yX12_letter ∈ zTg := zin_of (tK1 _ (List.mem_of_getElem? (i := 5) (show tL1[5]? = some (1798, .methodLink RX12 77 yX12_letter) from rfl)))
theorem t30 : .instanceMethod yX12_letter ∈ zTg := zin_of (tK1 _ (List.mem_of_getElem? (i := 6) (show tL1[6]? = some (1800, .instanceMethod yX12_letter) from rfl)))
theorem t31 : .selects RX12 yX12_letter yX12_letter ∈ zTg := zin_of (tK1 _ (List.mem_of_getElem? (i := 7) (show tL1[7]? = some (42, .selects RX12 yX12_letter yX12_letter) from rfl)))
theorem t32 : .methodLink RX12 81 yX12_skip ∈ zTg := zin_of (tK1 _ (List.mem_of_getElem? (i := 8) (show tL1[8]? = some (1794, .methodLink RX12 81 yX12_skip) from rfl)))
theorem t33 : .instanceMethod yX12_skip ∈ zTg := zin_of (tK1 _ (List.mem_of_getElem? (i := 9) (show tL1[9]? = some (1796, .instanceMethod yX12_skip) from rfl)))
theorem t34 : .selects RX12 yX12_skip yX12_skip ∈ zTg := zin_of (tK1 _ (List.mem_of_getElem? (i := 10) (show tL1[10]? = some (41, .selects RX12 yX12_skip yX12_skip) from rfl)))
theorem t35 : .methodLink RX12 84 yJ0_length_8abf5 ∈ zTg := zin_of (tK1 _ (List.mem_of_getElem? (i := 11) (show tL1[11]? = some (1815, .methodLink RX12 84 yJ0_length_8abf5) from rfl)))
theorem t36 : .instanceMethod yJ0_length_8abf5 ∈ zTg := zin_of (tK1 _ (List.mem_of_getElem? (i := 12) (show tL1[12]? = some (840, .instanceMethod yJ0_length_8abf5) from rfl)))
theorem t37 : .selects RJ0 yJ0_length_8abf5 yJ0_length_8abf5 ∈ zTg := zin_of (tK1 _ (List.mem_of_getElem? (i := 13) (show tL1[13]? = some (841, .selects RJ0 yJ0_length_8abf5 yJ0_length_8abf5) from rfl)))
theorem t38 : .methodLink RX12 90 yJ0_charAt_5068e ∈ zTg := zin_of (tK1 _ (List.mem_of_getElem? (i := 14) (show tL1[14]? = some (1816, .methodLink RX12 90 yJ0_charAt_5068e) from rfl)))
theorem t39 : .instanceMethod yJ0_charAt_5068e ∈ zTg := zin_of (tK1 _ (List.mem_of_getElem? (i := 15) (show tL1[15]? = some (850, .instanceMethod yJ0_charAt_5068e) from rfl)))
theorem t40 : .selects RJ0 yJ0_charAt_5068e yJ0_charAt_5068e ∈ zTg := zin_of (tK1 _ (List.mem_of_getElem? (i := 16) (show tL1[16]? = some (851, .selects RJ0 yJ0_charAt_5068e yJ0_charAt_5068e) from rfl)))
theorem t41 : .methodLink RX12 94 yX12_here ∈ zTg := zin_of (tK1 _ (List.mem_of_getElem? (i := 17) (show tL1[17]? = some (1823, .methodLink RX12 94 yX12_here) from rfl)))
theorem t42 : .instanceMethod yX12_here ∈ zTg := zin_of (tK1 _ (List.mem_of_getElem? (i := 18) (show tL1[18]? = some (1825, .instanceMethod yX12_here) from rfl)))
theorem t43 : .selects RX12 yX12_here yX12_here ∈ zTg := zin_of (tK1 _ (List.mem_of_getElem? (i := 19) (show tL1[19]? = some (47, .selects RX12 yX12_here yX12_here) from rfl)))
theorem t44 : .methodLink RX12 97 yX12_wrong ∈ zTg := zin_of (tK1 _ (List.mem_of_getElem? (i := 20) (show tL1[20]? = some (1802, .methodLink RX12 97 yX12_wrong) from rfl)))
theorem t45 : .instanceMethod yX12_wrong ∈ zTg := zin_of (tK1 _ (List.mem_of_getElem? (i := 21) (show tL1[21]? = some (1804, .instanceMethod yX12_wrong) from rfl)))
theorem t46 : .selects RX12 yX12_wrong yX12_wrong ∈ zTg := zin_of (tK1 _ (List.mem_of_getElem? (i := 22) (show tL1[22]? = some (43, .selects RX12 yX12_wrong yX12_wrong) from rfl)))
theorem t47 : .methodLink RX12 101 yX12_has ∈ zTg := zin_of (tK1 _ (List.mem_of_getElem? (i := 23) (show tL1[23]? = some (1811, .methodLink RX12 101 yX12_has) from rfl)))
def tL2 : List (Nat × Cond) := [(1813, .instanceMethod yX12_has), (45, .selects RX12 yX12_has yX12_has), (1819, .methodLink RX12 105 yX12_figures), (1821, .instanceMethod yX12_figures), (46, .selects RX12 yX12_figures yX12_figures), (1878, .methodLink RX12 109 yX12_after), (1880, .instanceMethod yX12_after), (57, .selects RX12 yX12_after yX12_after), (1890, .methodLink RX12 126 yX12_row), (1892, .instanceMethod yX12_row), (59, .selects RX12 yX12_row yX12_row), (1898, .methodLink RX12 139 yX12_sky), (1900, .instanceMethod yX12_sky), (61, .selects RX12 yX12_sky yX12_sky), (1924, .methodLink RX12 144 yX12_standsIn), (1926, .instanceMethod yX12_standsIn), (65, .selects RX12 yX12_standsIn yX12_standsIn), (1873, .methodLink RX12 149 yX12_memberLine), (1875, .instanceMethod yX12_memberLine), (56, .selects RX12 yX12_memberLine yX12_memberLine), (1883, .methodLink RX12 154 yX12_motionLine), (1885, .instanceMethod yX12_motionLine), (58, .selects RX12 yX12_motionLine yX12_motionLine), (1894, .methodLink RX12 158 yX12_skyLine)]
set_option maxRecDepth 100000 in
theorem tK2 : ∀ q ∈ tL2, lw_tbl[q.1]? = some q.2 ∧ goodWord q.2 = true := by decide +kernel
theorem t48 : .instanceMethod yX12_has ∈ zTg := zin_of (tK2 _ (List.mem_of_getElem? (i := 0) (show tL2[0]? = some (1813, .instanceMethod yX12_has) from rfl)))
theorem t49 : .selects RX12 yX12_has yX12_has ∈ zTg := zin_of (tK2 _ (List.mem_of_getElem? (i := 1) (show tL2[1]? = some (45, .selects RX12 yX12_has yX12_has) from rfl)))
theorem t50 : .methodLink RX12 105 yX12_figures ∈ zTg := zin_of (tK2 _ (List.mem_of_getElem? (i := 2) (show tL2[2]? = some (1819, .methodLink RX12 105 yX12_figures) from rfl)))
theorem t51 : .instanceMethod yX12_figures ∈ zTg := zin_of (tK2 _ (List.mem_of_getElem? (i := 3) (show tL2[3]? = some (1821, .instanceMethod yX12_figures) from rfl)))
theorem t52 : .selects RX12 yX12_figures yX12_figures ∈ zTg := zin_of (tK2 _ (List.mem_of_getElem? (i := 4) (show tL2[4]? = some (46, .selects RX12 yX12_figures yX12_figures) from rfl)))
theorem t53 : .methodLink RX12 109 yX12_after ∈ zTg := zin_of (tK2 _ (List.mem_of_getElem? (i := 5) (show tL2[5]? = some (1878, .methodLink RX12 109 yX12_after) from rfl)))
theorem t54 : .instanceMethod yX12_after ∈ zTg := zin_of (tK2 _ (List.mem_of_getElem? (i := 6) (show tL2[6]? = some (1880, .instanceMethod yX12_after) from rfl)))
theorem t55 : .selects RX12 yX12_after yX12_after ∈ zTg := zin_of (tK2 _ (List.mem_of_getElem? (i := 7) (show tL2[7]? = some (57, .selects RX12 yX12_after yX12_after) from rfl)))
theorem t56 : .methodLink RX12 126 yX12_row ∈ zTg := zin_of (tK2 _ (List.mem_of_getElem? (i := 8) (show tL2[8]? = some (1890, .methodLink RX12 126 yX12_row) from rfl)))
theorem t57 : .instanceMethod yX12_row ∈ zTg := zin_of (tK2 _ (List.mem_of_getElem? (i := 9) (show tL2[9]? = some (1892, .instanceMethod yX12_row) from rfl)))
theorem t58 : .selects RX12 yX12_row yX12_row ∈ zTg := zin_of (tK2 _ (List.mem_of_getElem? (i := 10) (show tL2[10]? = some (59, .selects RX12 yX12_row yX12_row) from rfl)))
theorem t59 : .methodLink RX12 139 yX12_sky ∈ zTg := zin_of (tK2 _ (List.mem_of_getElem? (i := 11) (show tL2[11]? = some (1898, .methodLink RX12 139 yX12_sky) from rfl)))
theorem t60 : .instanceMethod yX12_sky ∈ zTg := zin_of (tK2 _ (List.mem_of_getElem? (i := 12) (show tL2[12]? = some (1900, .instanceMethod yX12_sky) from rfl)))
theorem t61 : .selects RX12 yX12_sky yX12_sky ∈ zTg := zin_of (tK2 _ (List.mem_of_getElem? (i := 13) (show tL2[13]? = some (61, .selects RX12 yX12_sky yX12_sky) from rfl)))
theorem t62 : .methodLink RX12 144 yX12_standsIn ∈ zTg := zin_of (tK2 _ (List.mem_of_getElem? (i := 14) (show tL2[14]? = some (1924, .methodLink RX12 144 yX12_standsIn) from rfl)))
theorem t63 : .instanceMethod yX12_standsIn ∈ zTg := zin_of (tK2 _ (List.mem_of_getElem? (i := 15) (show tL2[15]? = some (1926, .instanceMethod yX12_standsIn) from rfl)))
theorem t64 : .selects RX12 yX12_standsIn yX12_standsIn ∈ zTg := zin_of (tK2 _ (List.mem_of_getElem? (i := 16) (show tL2[16]? = some (65, .selects RX12 yX12_standsIn yX12_standsIn) from rfl)))
theorem t65 : .methodLink RX12 149 yX12_memberLine ∈ zTg := zin_of (tK2 _ (List.mem_of_getElem? (i := 17) (show tL2[17]? = some (1873, .methodLink RX12 149 yX12_memberLine) from rfl)))
theorem t66 : .instanceMethod yX12_memberLine ∈ zTg := zin_of (tK2 _ (List.mem_of_getElem? (i := 18) (show tL2[18]? = some (1875, .instanceMethod yX12_memberLine) from rfl)))
theorem t67 : .selects RX12 yX12_memberLine yX12_memberLine ∈ zTg := zin_of (tK2 _ (List.mem_of_getElem? (i := 19) (show tL2[19]? = some (56, .selects RX12 yX12_memberLine yX12_memberLine) from rfl)))
theorem t68 : .methodLink RX12 154 yX12_motionLine ∈ zTg := zin_of (tK2 _ (List.mem_of_getElem? (i := 20) (show tL2[20]? = some (1883, .methodLink RX12 154 yX12_motionLine) from rfl)))
theorem t69 : .instanceMethod yX12_motionLine ∈ zTg := zin_of (tK2 _ (List.mem_of_getElem? (i := 21) (show tL2[21]? = some (1885, .instanceMethod yX12_motionLine) from rfl)))
theorem t70 : .selects RX12 yX12_motionLine yX12_motionLine ∈ zTg := zin_of (tK2 _ (List.mem_of_getElem? (i := 22) (show tL2[22]? = some (58, .selects RX12 yX12_motionLine yX12_motionLine) from rfl)))
theorem t71 : .methodLink RX12 158 yX12_skyLine ∈ zTg := zin_of (tK2 _ (List.mem_of_getElem? (i := 23) (show tL2[23]? = some (1894, .methodLink RX12 158 yX12_skyLine) from rfl)))
def tL3 : List (Nat × Cond) := [(1896, .instanceMethod yX12_skyLine), (60, .selects RX12 yX12_skyLine yX12_skyLine), (1909, .methodLink RX12 165 yX12_placeLine), (1911, .instanceMethod yX12_placeLine), (62, .selects RX12 yX12_placeLine yX12_placeLine), (1914, .methodLink RX12 170 yX12_tells), (1916, .instanceMethod yX12_tells), (63, .selects RX12 yX12_tells yX12_tells), (1920, .methodLink RX12 180 yX12_paperLine), (1922, .instanceMethod yX12_paperLine), (64, .selects RX12 yX12_paperLine yX12_paperLine), (1696, .fieldLink RX12 187 "DrizzleVoteModel" "deep" "I"), (1806, .methodLink RX12 190 yX12_lawLine), (1808, .instanceMethod yX12_lawLine), (44, .selects RX12 yX12_lawLine yX12_lawLine), (1869, .methodLink RX12 193 yX12_coastLine), (1871, .instanceMethod yX12_coastLine), (55, .selects RX12 yX12_coastLine yX12_coastLine), (1841, .methodLink RX12 196 yX12_isSign), (1843, .instanceMethod yX12_isSign), (51, .selects RX12 yX12_isSign yX12_isSign), (1782, .methodLink RX12 200 yX12_putsAside), (1784, .instanceMethod yX12_putsAside), (38, .selects RX12 yX12_putsAside yX12_putsAside)]
set_option maxRecDepth 100000 in
theorem tK3 : ∀ q ∈ tL3, lw_tbl[q.1]? = some q.2 ∧ goodWord q.2 = true := by decide +kernel
theorem t72 : .instanceMethod yX12_skyLine ∈ zTg := zin_of (tK3 _ (List.mem_of_getElem? (i := 0) (show tL3[0]? = some (1896, .instanceMethod yX12_skyLine) from rfl)))
theorem t73 : .selects RX12 yX12_skyLine yX12_skyLine ∈ zTg := zin_of (tK3 _ (List.mem_of_getElem? (i := 1) (show tL3[1]? = some (60, .selects RX12 yX12_skyLine yX12_skyLine) from rfl)))
theorem t74 : .methodLink RX12 165 yX12_placeLine ∈ zTg := zin_of (tK3 _ (List.mem_of_getElem? (i := 2) (show tL3[2]? = some (1909, .methodLink RX12 165 yX12_placeLine) from rfl)))
theorem t75 : .instanceMethod yX12_placeLine ∈ zTg := zin_of (tK3 _ (List.mem_of_getElem? (i := 3) (show tL3[3]? = some (1911, .instanceMethod yX12_placeLine) from rfl)))
theorem t76 : .selects RX12 yX12_placeLine yX12_placeLine ∈ zTg := zin_of (tK3 _ (List.mem_of_getElem? (i := 4) (show tL3[4]? = some (62, .selects RX12 yX12_placeLine yX12_placeLine) from rfl)))
theorem t77 : .methodLink RX12 170 yX12_tells ∈ zTg := zin_of (tK3 _ (List.mem_of_getElem? (i := 5) (show tL3[5]? = some (1914, .methodLink RX12 170 yX12_tells) from rfl)))
theorem t78 : .instanceMethod yX12_tells ∈ zTg := zin_of (tK3 _ (List.mem_of_getElem? (i := 6) (show tL3[6]? = some (1916, .instanceMethod yX12_tells) from rfl)))
theorem t79 : .selects RX12 yX12_tells yX12_tells ∈ zTg := zin_of (tK3 _ (List.mem_of_getElem? (i := 7) (show tL3[7]? = some (63, .selects RX12 yX12_tells yX12_tells) from rfl)))
theorem t80 : .methodLink RX12 180 yX12_paperLine ∈ zTg := zin_of (tK3 _ (List.mem_of_getElem? (i := 8) (show tL3[8]? = some (1920, .methodLink RX12 180 yX12_paperLine) from rfl)))
theorem t81 : .instanceMethod yX12_paperLine ∈ zTg := zin_of (tK3 _ (List.mem_of_getElem? (i := 9) (show tL3[9]? = some (1922, .instanceMethod yX12_paperLine) from rfl)))
theorem t82 : .selects RX12 yX12_paperLine yX12_paperLine ∈ zTg := zin_of (tK3 _ (List.mem_of_getElem? (i := 10) (show tL3[10]? = some (64, .selects RX12 yX12_paperLine yX12_paperLine) from rfl)))
theorem t83 : .fieldLink RX12 187 "DrizzleVoteModel" "deep" "I" ∈ zTg := zin_of (tK3 _ (List.mem_of_getElem? (i := 11) (show tL3[11]? = some (1696, .fieldLink RX12 187 "DrizzleVoteModel" "deep" "I") from rfl)))
theorem t84 : .methodLink RX12 190 yX12_lawLine ∈ zTg := zin_of (tK3 _ (List.mem_of_getElem? (i := 12) (show tL3[12]? = some (1806, .methodLink RX12 190 yX12_lawLine) from rfl)))
theorem t85 : .instanceMethod yX12_lawLine ∈ zTg := zin_of (tK3 _ (List.mem_of_getElem? (i := 13) (show tL3[13]? = some (1808, .instanceMethod yX12_lawLine) from rfl)))
theorem t86 : .selects RX12 yX12_lawLine yX12_lawLine ∈ zTg := zin_of (tK3 _ (List.mem_of_getElem? (i := 14) (show tL3[14]? = some (44, .selects RX12 yX12_lawLine yX12_lawLine) from rfl)))
theorem t87 : .methodLink RX12 193 yX12_coastLine ∈ zTg := zin_of (tK3 _ (List.mem_of_getElem? (i := 15) (show tL3[15]? = some (1869, .methodLink RX12 193 yX12_coastLine) from rfl)))
theorem t88 : .instanceMethod yX12_coastLine ∈ zTg := zin_of (tK3 _ (List.mem_of_getElem? (i := 16) (show tL3[16]? = some (1871, .instanceMethod yX12_coastLine) from rfl)))
theorem t89 : .selects RX12 yX12_coastLine yX12_coastLine ∈ zTg := zin_of (tK3 _ (List.mem_of_getElem? (i := 17) (show tL3[17]? = some (55, .selects RX12 yX12_coastLine yX12_coastLine) from rfl)))
theorem t90 : .methodLink RX12 196 yX12_isSign ∈ zTg := zin_of (tK3 _ (List.mem_of_getElem? (i := 18) (show tL3[18]? = some (1841, .methodLink RX12 196 yX12_isSign) from rfl)))
theorem t91 : .instanceMethod yX12_isSign ∈ zTg := zin_of (tK3 _ (List.mem_of_getElem? (i := 19) (show tL3[19]? = some (1843, .instanceMethod yX12_isSign) from rfl)))
theorem t92 : .selects RX12 yX12_isSign yX12_isSign ∈ zTg := zin_of (tK3 _ (List.mem_of_getElem? (i := 20) (show tL3[20]? = some (51, .selects RX12 yX12_isSign yX12_isSign) from rfl)))
theorem t93 : .methodLink RX12 200 yX12_putsAside ∈ zTg := zin_of (tK3 _ (List.mem_of_getElem? (i := 21) (show tL3[21]? = some (1782, .methodLink RX12 200 yX12_putsAside) from rfl)))
theorem t94 : .instanceMethod yX12_putsAside ∈ zTg := zin_of (tK3 _ (List.mem_of_getElem? (i := 22) (show tL3[22]? = some (1784, .instanceMethod yX12_putsAside) from rfl)))
theorem t95 : .selects RX12 yX12_putsAside yX12_putsAside ∈ zTg := zin_of (tK3 _ (List.mem_of_getElem? (i := 23) (show tL3[23]? = some (38, .selects RX12 yX12_putsAside yX12_putsAside) from rfl)))
def tL4 : List (Nat × Cond) := [(1786, .methodLink RX12 203 yX12_begins), (1788, .instanceMethod yX12_begins), (39, .selects RX12 yX12_begins yX12_begins), (1790, .methodLink RX12 206 yX12_read), (1792, .instanceMethod yX12_read), (40, .selects RX12 yX12_read yX12_read), (1929, .methodLink RX12 210 yX12_comesBack), (1931, .instanceMethod yX12_comesBack), (66, .selects RX12 yX12_comesBack yX12_comesBack), (1689, .fieldLink RX12 213 "DrizzleVoteModel" "acted" "I"), (1856, .methodLink RX12 216 yX12_part), (1858, .instanceMethod yX12_part), (54, .selects RX12 yX12_part yX12_part), (1698, .fieldLink RX12 219 "DrizzleVoteModel" "hasHat" "Z"), (1699, .fieldLink RX12 225 "DrizzleVoteModel" "isMover" "Z"), (1852, .methodLink RX12 228 yX12_sum), (1854, .instanceMethod yX12_sum), (53, .selects RX12 yX12_sum yX12_sum), (1845, .methodLink RX12 233 yX12_plain), (1847, .instanceMethod yX12_plain), (52, .selects RX12 yX12_plain yX12_plain), (1836, .methodLink RX12 237 yX12_atom), (1838, .instanceMethod yX12_atom), (50, .selects RX12 yX12_atom yX12_atom)]
set_option maxRecDepth 100000 in
theorem tK4 : ∀ q ∈ tL4, lw_tbl[q.1]? = some q.2 ∧ goodWord q.2 = true := by decide +kernel
theorem t96 : .methodLink RX12 203 yX12_begins ∈ zTg := zin_of (tK4 _ (List.mem_of_getElem? (i := 0) (show tL4[0]? = some (1786, .methodLink RX12 203 yX12_begins) from rfl)))
theorem t97 : .instanceMethod yX12_begins ∈ zTg := zin_of (tK4 _ (List.mem_of_getElem? (i := 1) (show tL4[1]? = some (1788, .instanceMethod yX12_begins) from rfl)))
theorem t98 : .selects RX12 yX12_begins yX12_begins ∈ zTg := zin_of (tK4 _ (List.mem_of_getElem? (i := 2) (show tL4[2]? = some (39, .selects RX12 yX12_begins yX12_begins) from rfl)))
theorem t99 : .methodLink RX12 206 yX12_read ∈ zTg := zin_of (tK4 _ (List.mem_of_getElem? (i := 3) (show tL4[3]? = some (1790, .methodLink RX12 206 yX12_read) from rfl)))
theorem t100 : .instanceMethod yX12_read ∈ zTg := zin_of (tK4 _ (List.mem_of_getElem? (i := 4) (show tL4[4]? = some (1792, .instanceMethod yX12_read) from rfl)))
theorem t101 : .selects RX12 yX12_read yX12_read ∈ zTg := zin_of (tK4 _ (List.mem_of_getElem? (i := 5) (show tL4[5]? = some (40, .selects RX12 yX12_read yX12_read) from rfl)))
theorem t102 : .methodLink RX12 210 yX12_comesBack ∈ zTg := zin_of (tK4 _ (List.mem_of_getElem? (i := 6) (show tL4[6]? = some (1929, .methodLink RX12 210 yX12_comesBack) from rfl)))
theorem t103 : .instanceMethod yX12_comesBack ∈ zTg := zin_of (tK4 _ (List.mem_of_getElem? (i := 7) (show tL4[7]? = some (1931, .instanceMethod yX12_comesBack) from rfl)))
theorem t104 : .selects RX12 yX12_comesBack yX12_comesBack ∈ zTg := zin_of (tK4 _ (List.mem_of_getElem? (i := 8) (show tL4[8]? = some (66, .selects RX12 yX12_comesBack yX12_comesBack) from rfl)))
theorem t105 : .fieldLink RX12 213 "DrizzleVoteModel" "acted" "I" ∈ zTg := zin_of (tK4 _ (List.mem_of_getElem? (i := 9) (show tL4[9]? = some (1689, .fieldLink RX12 213 "DrizzleVoteModel" "acted" "I") from rfl)))
theorem t106 : .methodLink RX12 216 yX12_part ∈ zTg := zin_of (tK4 _ (List.mem_of_getElem? (i := 10) (show tL4[10]? = some (1856, .methodLink RX12 216 yX12_part) from rfl)))
theorem t107 : .instanceMethod yX12_part ∈ zTg := zin_of (tK4 _ (List.mem_of_getElem? (i := 11) (show tL4[11]? = some (1858, .instanceMethod yX12_part) from rfl)))
theorem t108 : .selects RX12 yX12_part yX12_part ∈ zTg := zin_of (tK4 _ (List.mem_of_getElem? (i := 12) (show tL4[12]? = some (54, .selects RX12 yX12_part yX12_part) from rfl)))
theorem t109 : .fieldLink RX12 219 "DrizzleVoteModel" "hasHat" "Z" ∈ zTg := zin_of (tK4 _ (List.mem_of_getElem? (i := 13) (show tL4[13]? = some (1698, .fieldLink RX12 219 "DrizzleVoteModel" "hasHat" "Z") from rfl)))
theorem t110 : .fieldLink RX12 225 "DrizzleVoteModel" "isMover" "Z" ∈ zTg := zin_of (tK4 _ (List.mem_of_getElem? (i := 14) (show tL4[14]? = some (1699, .fieldLink RX12 225 "DrizzleVoteModel" "isMover" "Z") from rfl)))
theorem t111 : .methodLink RX12 228 yX12_sum ∈ zTg := zin_of (tK4 _ (List.mem_of_getElem? (i := 15) (show tL4[15]? = some (1852, .methodLink RX12 228 yX12_sum) from rfl)))
theorem t112 : .instanceMethod yX12_sum ∈ zTg := zin_of (tK4 _ (List.mem_of_getElem? (i := 16) (show tL4[16]? = some (1854, .instanceMethod yX12_sum) from rfl)))
theorem t113 : .selects RX12 yX12_sum yX12_sum ∈ zTg := zin_of (tK4 _ (List.mem_of_getElem? (i := 17) (show tL4[17]? = some (53, .selects RX12 yX12_sum yX12_sum) from rfl)))
theorem t114 : .methodLink RX12 233 yX12_plain ∈ zTg := zin_of (tK4 _ (List.mem_of_getElem? (i := 18) (show tL4[18]? = some (1845, .methodLink RX12 233 yX12_plain) from rfl)))
theorem t115 : .instanceMethod yX12_plain ∈ zTg := zin_of (tK4 _ (List.mem_of_getElem? (i := 19) (show tL4[19]? = some (1847, .instanceMethod yX12_plain) from rfl)))
theorem t116 : .selects RX12 yX12_plain yX12_plain ∈ zTg := zin_of (tK4 _ (List.mem_of_getElem? (i := 20) (show tL4[20]? = some (52, .selects RX12 yX12_plain yX12_plain) from rfl)))
theorem t117 : .methodLink RX12 237 yX12_atom ∈ zTg := zin_of (tK4 _ (List.mem_of_getElem? (i := 21) (show tL4[21]? = some (1836, .methodLink RX12 237 yX12_atom) from rfl)))
theorem t118 : .instanceMethod yX12_atom ∈ zTg := zin_of (tK4 _ (List.mem_of_getElem? (i := 22) (show tL4[22]? = some (1838, .instanceMethod yX12_atom) from rfl)))
theorem t119 : .selects RX12 yX12_atom yX12_atom ∈ zTg := zin_of (tK4 _ (List.mem_of_getElem? (i := 23) (show tL4[23]? = some (50, .selects RX12 yX12_atom yX12_atom) from rfl)))
def tL5 : List (Nat × Cond) := [(1828, .methodLink RX12 240 yX12_some), (1830, .instanceMethod yX12_some), (48, .selects RX12 yX12_some yX12_some), (1832, .methodLink RX12 245 yX12_every), (1834, .instanceMethod yX12_every), (49, .selects RX12 yX12_every yX12_every), (1701, .fieldLink RX12 258 "DrizzleVoteModel" "hasLapse" "Z"), (1702, .fieldLink RX12 261 "DrizzleVoteModel" "lapses" "Z"), (1700, .fieldLink RX12 264 "DrizzleVoteModel" "feels" "I"), (2006, .methodLink RX12 267 yX12_asks), (2008, .instanceMethod yX12_asks), (75, .selects RX12 yX12_asks yX12_asks), (2011, .static yX12_lesser), (2010, .methodLink RX12 271 yX12_lesser), (2014, .static yX12_greater), (2013, .methodLink RX12 274 yX12_greater), (2024, .methodLink RX12 277 yX12_lapsesIn), (2026, .instanceMethod yX12_lapsesIn), (77, .selects RX12 yX12_lapsesIn yX12_lapsesIn), (2028, .methodLink RX12 280 yX12_outs), (2030, .instanceMethod yX12_outs), (78, .selects RX12 yX12_outs yX12_outs), (2033, .static yX12_bits), (2032, .methodLink RX12 283 yX12_bits)]
set_option maxRecDepth 100000 in
theorem tK5 : ∀ q ∈ tL5, lw_tbl[q.1]? = some q.2 ∧ goodWord q.2 = true := by decide +kernel
theorem t120 : .methodLink RX12 240 yX12_some ∈ zTg := zin_of (tK5 _ (List.mem_of_getElem? (i := 0) (show tL5[0]? = some (1828, .methodLink RX12 240 yX12_some) from rfl)))
theorem t121 : .instanceMethod yX12_some ∈ zTg := zin_of (tK5 _ (List.mem_of_getElem? (i := 1) (show tL5[1]? = some (1830, .instanceMethod yX12_some) from rfl)))
theorem t122 : .selects RX12 yX12_some yX12_some ∈ zTg := zin_of (tK5 _ (List.mem_of_getElem? (i := 2) (show tL5[2]? = some (48, .selects RX12 yX12_some yX12_some) from rfl)))
theorem t123 : .methodLink RX12 245 yX12_every ∈ zTg := zin_of (tK5 _ (List.mem_of_getElem? (i := 3) (show tL5[3]? = some (1832, .methodLink RX12 245 yX12_every) from rfl)))
theorem t124 : .instanceMethod yX12_every ∈ zTg := zin_of (tK5 _ (List.mem_of_getElem? (i := 4) (show tL5[4]? = some (1834, .instanceMethod yX12_every) from rfl)))
theorem t125 : .selects RX12 yX12_every yX12_every ∈ zTg := zin_of (tK5 _ (List.mem_of_getElem? (i := 5) (show tL5[5]? = some (49, .selects RX12 yX12_every yX12_every) from rfl)))
theorem t126 : .fieldLink RX12 258 "DrizzleVoteModel" "hasLapse" "Z" ∈ zTg := zin_of (tK5 _ (List.mem_of_getElem? (i := 6) (show tL5[6]? = some (1701, .fieldLink RX12 258 "DrizzleVoteModel" "hasLapse" "Z") from rfl)))
theorem t127 : .fieldLink RX12 261 "DrizzleVoteModel" "lapses" "Z" ∈ zTg := zin_of (tK5 _ (List.mem_of_getElem? (i := 7) (show tL5[7]? = some (1702, .fieldLink RX12 261 "DrizzleVoteModel" "lapses" "Z") from rfl)))
theorem t128 : .fieldLink RX12 264 "DrizzleVoteModel" "feels" "I" ∈ zTg := zin_of (tK5 _ (List.mem_of_getElem? (i := 8) (show tL5[8]? = some (1700, .fieldLink RX12 264 "DrizzleVoteModel" "feels" "I") from rfl)))
theorem t129 : .methodLink RX12 267 yX12_asks ∈ zTg := zin_of (tK5 _ (List.mem_of_getElem? (i := 9) (show tL5[9]? = some (2006, .methodLink RX12 267 yX12_asks) from rfl)))
theorem t130 : .instanceMethod yX12_asks ∈ zTg := zin_of (tK5 _ (List.mem_of_getElem? (i := 10) (show tL5[10]? = some (2008, .instanceMethod yX12_asks) from rfl)))
theorem t131 : .selects RX12 yX12_asks yX12_asks ∈ zTg := zin_of (tK5 _ (List.mem_of_getElem? (i := 11) (show tL5[11]? = some (75, .selects RX12 yX12_asks yX12_asks) from rfl)))
theorem t132 : .static yX12_lesser ∈ zTg := zin_of (tK5 _ (List.mem_of_getElem? (i := 12) (show tL5[12]? = some (2011, .static yX12_lesser) from rfl)))
theorem t133 : .methodLink RX12 271 yX12_lesser ∈ zTg := zin_of (tK5 _ (List.mem_of_getElem? (i := 13) (show tL5[13]? = some (2010, .methodLink RX12 271 yX12_lesser) from rfl)))
theorem t134 : .static yX12_greater ∈ zTg := zin_of (tK5 _ (List.mem_of_getElem? (i := 14) (show tL5[14]? = some (2014, .static yX12_greater) from rfl)))
theorem t135 : .methodLink RX12 274 yX12_greater ∈ zTg := zin_of (tK5 _ (List.mem_of_getElem? (i := 15) (show tL5[15]? = some (2013, .methodLink RX12 274 yX12_greater) from rfl)))
theorem t136 : .methodLink RX12 277 yX12_lapsesIn ∈ zTg := zin_of (tK5 _ (List.mem_of_getElem? (i := 16) (show tL5[16]? = some (2024, .methodLink RX12 277 yX12_lapsesIn) from rfl)))
theorem t137 : .instanceMethod yX12_lapsesIn ∈ zTg := zin_of (tK5 _ (List.mem_of_getElem? (i := 17) (show tL5[17]? = some (2026, .instanceMethod yX12_lapsesIn) from rfl)))
theorem t138 : .selects RX12 yX12_lapsesIn yX12_lapsesIn ∈ zTg := zin_of (tK5 _ (List.mem_of_getElem? (i := 18) (show tL5[18]? = some (77, .selects RX12 yX12_lapsesIn yX12_lapsesIn) from rfl)))
theorem t139 : .methodLink RX12 280 yX12_outs ∈ zTg := zin_of (tK5 _ (List.mem_of_getElem? (i := 19) (show tL5[19]? = some (2028, .methodLink RX12 280 yX12_outs) from rfl)))
theorem t140 : .instanceMethod yX12_outs ∈ zTg := zin_of (tK5 _ (List.mem_of_getElem? (i := 20) (show tL5[20]? = some (2030, .instanceMethod yX12_outs) from rfl)))
theorem t141 : .selects RX12 yX12_outs yX12_outs ∈ zTg := zin_of (tK5 _ (List.mem_of_getElem? (i := 21) (show tL5[21]? = some (78, .selects RX12 yX12_outs yX12_outs) from rfl)))
theorem t142 : .static yX12_bits ∈ zTg := zin_of (tK5 _ (List.mem_of_getElem? (i := 22) (show tL5[22]? = some (2033, .static yX12_bits) from rfl)))
theorem t143 : .methodLink RX12 283 yX12_bits ∈ zTg := zin_of (tK5 _ (List.mem_of_getElem? (i := 23) (show tL5[23]? = some (2032, .methodLink RX12 283 yX12_bits) from rfl)))
def tL6 : List (Nat × Cond) := [(2002, .methodLink RX12 286 yX12_feltBy), (2004, .instanceMethod yX12_feltBy), (74, .selects RX12 yX12_feltBy yX12_feltBy), (1962, .static yX12_isOf), (1961, .methodLink RX12 290 yX12_isOf), (2020, .methodLink RX12 294 yX12_goesIn), (2022, .instanceMethod yX12_goesIn), (76, .selects RX12 yX12_goesIn yX12_goesIn), (2059, .constant RX12 298 (Int32.ofInt 1103515245)), (2051, .methodLink RX12 299 yX12_weights), (2053, .instanceMethod yX12_weights), (82, .selects RX12 yX12_weights yX12_weights), (2055, .methodLink RX12 302 yX12_draw), (2057, .instanceMethod yX12_draw), (83, .selects RX12 yX12_draw yX12_draw), (1708, .fieldLink RX12 305 "DrizzleVoteModel" "drizzles" "I"), (2060, .methodLink RX12 308 yX12_waits), (2062, .instanceMethod yX12_waits), (84, .selects RX12 yX12_waits yX12_waits), (2064, .methodLink RX12 311 yX12_logs), (2066, .instanceMethod yX12_logs), (85, .selects RX12 yX12_logs yX12_logs), (2047, .methodLink RX12 314 yX12_passes), (2049, .instanceMethod yX12_passes)]
set_option maxRecDepth 100000 in
theorem tK6 : ∀ q ∈ tL6, lw_tbl[q.1]? = some q.2 ∧ goodWord q.2 = true := by decide +kernel
theorem t144 : .methodLink RX12 286 yX12_feltBy ∈ zTg := zin_of (tK6 _ (List.mem_of_getElem? (i := 0) (show tL6[0]? = some (2002, .methodLink RX12 286 yX12_feltBy) from rfl)))
theorem t145 : .instanceMethod yX12_feltBy ∈ zTg := zin_of (tK6 _ (List.mem_of_getElem? (i := 1) (show tL6[1]? = some (2004, .instanceMethod yX12_feltBy) from rfl)))
theorem t146 : .selects RX12 yX12_feltBy yX12_feltBy ∈ zTg := zin_of (tK6 _ (List.mem_of_getElem? (i := 2) (show tL6[2]? = some (74, .selects RX12 yX12_feltBy yX12_feltBy) from rfl)))
theorem t147 : .static yX12_isOf ∈ zTg := zin_of (tK6 _ (List.mem_of_getElem? (i := 3) (show tL6[3]? = some (1962, .static yX12_isOf) from rfl)))
theorem t148 : .methodLink RX12 290 yX12_isOf ∈ zTg := zin_of (tK6 _ (List.mem_of_getElem? (i := 4) (show tL6[4]? = some (1961, .methodLink RX12 290 yX12_isOf) from rfl)))
theorem t149 : .methodLink RX12 294 yX12_goesIn ∈ zTg := zin_of (tK6 _ (List.mem_of_getElem? (i := 5) (show tL6[5]? = some (2020, .methodLink RX12 294 yX12_goesIn) from rfl)))
theorem t150 : .instanceMethod yX12_goesIn ∈ zTg := zin_of (tK6 _ (List.mem_of_getElem? (i := 6) (show tL6[6]? = some (2022, .instanceMethod yX12_goesIn) from rfl)))
theorem t151 : .selects RX12 yX12_goesIn yX12_goesIn ∈ zTg := zin_of (tK6 _ (List.mem_of_getElem? (i := 7) (show tL6[7]? = some (76, .selects RX12 yX12_goesIn yX12_goesIn) from rfl)))
theorem t152 : .constant RX12 298 (Int32.ofInt 1103515245) ∈ zTg := zin_of (tK6 _ (List.mem_of_getElem? (i := 8) (show tL6[8]? = some (2059, .constant RX12 298 (Int32.ofInt 1103515245)) from rfl)))
theorem t153 : .methodLink RX12 299 yX12_weights ∈ zTg := zin_of (tK6 _ (List.mem_of_getElem? (i := 9) (show tL6[9]? = some (2051, .methodLink RX12 299 yX12_weights) from rfl)))
theorem t154 : .instanceMethod yX12_weights ∈ zTg := zin_of (tK6 _ (List.mem_of_getElem? (i := 10) (show tL6[10]? = some (2053, .instanceMethod yX12_weights) from rfl)))
theorem t155 : .selects RX12 yX12_weights yX12_weights ∈ zTg := zin_of (tK6 _ (List.mem_of_getElem? (i := 11) (show tL6[11]? = some (82, .selects RX12 yX12_weights yX12_weights) from rfl)))
theorem t156 : .methodLink RX12 302 yX12_draw ∈ zTg := zin_of (tK6 _ (List.mem_of_getElem? (i := 12) (show tL6[12]? = some (2055, .methodLink RX12 302 yX12_draw) from rfl)))
theorem t157 : .instanceMethod yX12_draw ∈ zTg := zin_of (tK6 _ (List.mem_of_getElem? (i := 13) (show tL6[13]? = some (2057, .instanceMethod yX12_draw) from rfl)))
theorem t158 : .selects RX12 yX12_draw yX12_draw ∈ zTg := zin_of (tK6 _ (List.mem_of_getElem? (i := 14) (show tL6[14]? = some (83, .selects RX12 yX12_draw yX12_draw) from rfl)))
theorem t159 : .fieldLink RX12 305 "DrizzleVoteModel" "drizzles" "I" ∈ zTg := zin_of (tK6 _ (List.mem_of_getElem? (i := 15) (show tL6[15]? = some (1708, .fieldLink RX12 305 "DrizzleVoteModel" "drizzles" "I") from rfl)))
theorem t160 : .methodLink RX12 308 yX12_waits ∈ zTg := zin_of (tK6 _ (List.mem_of_getElem? (i := 16) (show tL6[16]? = some (2060, .methodLink RX12 308 yX12_waits) from rfl)))
theorem t161 : .instanceMethod yX12_waits ∈ zTg := zin_of (tK6 _ (List.mem_of_getElem? (i := 17) (show tL6[17]? = some (2062, .instanceMethod yX12_waits) from rfl)))
theorem t162 : .selects RX12 yX12_waits yX12_waits ∈ zTg := zin_of (tK6 _ (List.mem_of_getElem? (i := 18) (show tL6[18]? = some (84, .selects RX12 yX12_waits yX12_waits) from rfl)))
theorem t163 : .methodLink RX12 311 yX12_logs ∈ zTg := zin_of (tK6 _ (List.mem_of_getElem? (i := 19) (show tL6[19]? = some (2064, .methodLink RX12 311 yX12_logs) from rfl)))
theorem t164 : .instanceMethod yX12_logs ∈ zTg := zin_of (tK6 _ (List.mem_of_getElem? (i := 20) (show tL6[20]? = some (2066, .instanceMethod yX12_logs) from rfl)))
theorem t165 : .selects RX12 yX12_logs yX12_logs ∈ zTg := zin_of (tK6 _ (List.mem_of_getElem? (i := 21) (show tL6[21]? = some (85, .selects RX12 yX12_logs yX12_logs) from rfl)))
theorem t166 : .methodLink RX12 314 yX12_passes ∈ zTg := zin_of (tK6 _ (List.mem_of_getElem? (i := 22) (show tL6[22]? = some (2047, .methodLink RX12 314 yX12_passes) from rfl)))
theorem t167 : .instanceMethod yX12_passes ∈ zTg := zin_of (tK6 _ (List.mem_of_getElem? (i := 23) (show tL6[23]? = some (2049, .instanceMethod yX12_passes) from rfl)))
def tL7 : List (Nat × Cond) := [(81, .selects RX12 yX12_passes yX12_passes), (1945, .methodLink RX12 317 yX12_isMember), (1947, .instanceMethod yX12_isMember), (67, .selects RX12 yX12_isMember yX12_isMember), (1953, .methodLink RX12 320 yX12_isFor), (1955, .instanceMethod yX12_isFor), (69, .selects RX12 yX12_isFor yX12_isFor), (1964, .methodLink RX12 323 yX12_seatsOut), (1966, .instanceMethod yX12_seatsOut), (71, .selects RX12 yX12_seatsOut yX12_seatsOut), (1972, .methodLink RX12 326 yX12_isMotion), (1974, .instanceMethod yX12_isMotion), (72, .selects RX12 yX12_isMotion yX12_isMotion), (1981, .static yX12_isSky), (1980, .methodLink RX12 329 yX12_isSky), (1996, .static yX12_isHour), (1995, .methodLink RX12 332 yX12_isHour), (2039, .methodLink RX12 335 yX12_remembers), (2041, .instanceMethod yX12_remembers), (79, .selects RX12 yX12_remembers yX12_remembers), (2043, .methodLink RX12 338 yX12_passesOn), (2045, .instanceMethod yX12_passesOn), (80, .selects RX12 yX12_passesOn yX12_passesOn), (2072, .methodLink RX12 341 yX12_sets)]
set_option maxRecDepth 100000 in
theorem tK7 : ∀ q ∈ tL7, lw_tbl[q.1]? = some q.2 ∧ goodWord q.2 = true := by decide +kernel
theorem t168 : .selects RX12 yX12_passes yX12_passes ∈ zTg := zin_of (tK7 _ (List.mem_of_getElem? (i := 0) (show tL7[0]? = some (81, .selects RX12 yX12_passes yX12_passes) from rfl)))
theorem t169 : .methodLink RX12 317 yX12_isMember ∈ zTg := zin_of (tK7 _ (List.mem_of_getElem? (i := 1) (show tL7[1]? = some (1945, .methodLink RX12 317 yX12_isMember) from rfl)))
theorem t170 : .instanceMethod yX12_isMember ∈ zTg := zin_of (tK7 _ (List.mem_of_getElem? (i := 2) (show tL7[2]? = some (1947, .instanceMethod yX12_isMember) from rfl)))
theorem t171 : .selects RX12 yX12_isMember yX12_isMember ∈ zTg := zin_of (tK7 _ (List.mem_of_getElem? (i := 3) (show tL7[3]? = some (67, .selects RX12 yX12_isMember yX12_isMember) from rfl)))
theorem t172 : .methodLink RX12 320 yX12_isFor ∈ zTg := zin_of (tK7 _ (List.mem_of_getElem? (i := 4) (show tL7[4]? = some (1953, .methodLink RX12 320 yX12_isFor) from rfl)))
theorem t173 : .instanceMethod yX12_isFor ∈ zTg := zin_of (tK7 _ (List.mem_of_getElem? (i := 5) (show tL7[5]? = some (1955, .instanceMethod yX12_isFor) from rfl)))
theorem t174 : .selects RX12 yX12_isFor yX12_isFor ∈ zTg := zin_of (tK7 _ (List.mem_of_getElem? (i := 6) (show tL7[6]? = some (69, .selects RX12 yX12_isFor yX12_isFor) from rfl)))
theorem t175 : .methodLink RX12 323 yX12_seatsOut ∈ zTg := zin_of (tK7 _ (List.mem_of_getElem? (i := 7) (show tL7[7]? = some (1964, .methodLink RX12 323 yX12_seatsOut) from rfl)))
theorem t176 : .instanceMethod yX12_seatsOut ∈ zTg := zin_of (tK7 _ (List.mem_of_getElem? (i := 8) (show tL7[8]? = some (1966, .instanceMethod yX12_seatsOut) from rfl)))
theorem t177 : .selects RX12 yX12_seatsOut yX12_seatsOut ∈ zTg := zin_of (tK7 _ (List.mem_of_getElem? (i := 9) (show tL7[9]? = some (71, .selects RX12 yX12_seatsOut yX12_seatsOut) from rfl)))
theorem t178 : .methodLink RX12 326 yX12_isMotion ∈ zTg := zin_of (tK7 _ (List.mem_of_getElem? (i := 10) (show tL7[10]? = some (1972, .methodLink RX12 326 yX12_isMotion) from rfl)))
theorem t179 : .instanceMethod yX12_isMotion ∈ zTg := zin_of (tK7 _ (List.mem_of_getElem? (i := 11) (show tL7[11]? = some (1974, .instanceMethod yX12_isMotion) from rfl)))
theorem t180 : .selects RX12 yX12_isMotion yX12_isMotion ∈ zTg := zin_of (tK7 _ (List.mem_of_getElem? (i := 12) (show tL7[12]? = some (72, .selects RX12 yX12_isMotion yX12_isMotion) from rfl)))
theorem t181 : .static yX12_isSky ∈ zTg := zin_of (tK7 _ (List.mem_of_getElem? (i := 13) (show tL7[13]? = some (1981, .static yX12_isSky) from rfl)))
theorem t182 : .methodLink RX12 329 yX12_isSky ∈ zTg := zin_of (tK7 _ (List.mem_of_getElem? (i := 14) (show tL7[14]? = some (1980, .methodLink RX12 329 yX12_isSky) from rfl)))
theorem t183 : .static yX12_isHour ∈ zTg := zin_of (tK7 _ (List.mem_of_getElem? (i := 15) (show tL7[15]? = some (1996, .static yX12_isHour) from rfl)))
theorem t184 : .methodLink RX12 332 yX12_isHour ∈ zTg := zin_of (tK7 _ (List.mem_of_getElem? (i := 16) (show tL7[16]? = some (1995, .methodLink RX12 332 yX12_isHour) from rfl)))
theorem t185 : .methodLink RX12 335 yX12_remembers ∈ zTg := zin_of (tK7 _ (List.mem_of_getElem? (i := 17) (show tL7[17]? = some (2039, .methodLink RX12 335 yX12_remembers) from rfl)))
theorem t186 : .instanceMethod yX12_remembers ∈ zTg := zin_of (tK7 _ (List.mem_of_getElem? (i := 18) (show tL7[18]? = some (2041, .instanceMethod yX12_remembers) from rfl)))
theorem t187 : .selects RX12 yX12_remembers yX12_remembers ∈ zTg := zin_of (tK7 _ (List.mem_of_getElem? (i := 19) (show tL7[19]? = some (79, .selects RX12 yX12_remembers yX12_remembers) from rfl)))
theorem t188 : .methodLink RX12 338 yX12_passesOn ∈ zTg := zin_of (tK7 _ (List.mem_of_getElem? (i := 20) (show tL7[20]? = some (2043, .methodLink RX12 338 yX12_passesOn) from rfl)))
theorem t189 : .instanceMethod yX12_passesOn ∈ zTg := zin_of (tK7 _ (List.mem_of_getElem? (i := 21) (show tL7[21]? = some (2045, .instanceMethod yX12_passesOn) from rfl)))
theorem t190 : .selects RX12 yX12_passesOn yX12_passesOn ∈ zTg := zin_of (tK7 _ (List.mem_of_getElem? (i := 22) (show tL7[22]? = some (80, .selects RX12 yX12_passesOn yX12_passesOn) from rfl)))
theorem t191 : .methodLink RX12 341 yX12_sets ∈ zTg := zin_of (tK7 _ (List.mem_of_getElem? (i := 23) (show tL7[23]? = some (2072, .methodLink RX12 341 yX12_sets) from rfl)))
def tL8 : List (Nat × Cond) := [(2074, .instanceMethod yX12_sets), (86, .selects RX12 yX12_sets yX12_sets), (2084, .methodLink RX12 344 yX12_changes), (2086, .instanceMethod yX12_changes), (87, .selects RX12 yX12_changes yX12_changes), (2116, .methodLink RX12 348 yX12_chancesBegin), (2118, .instanceMethod yX12_chancesBegin), (89, .selects RX12 yX12_chancesBegin yX12_chancesBegin), (2120, .methodLink RX12 351 yX12_chancesGo), (2122, .instanceMethod yX12_chancesGo), (90, .selects RX12 yX12_chancesGo yX12_chancesGo), (2112, .methodLink RX12 354 yX12_chancesIn), (2114, .instanceMethod yX12_chancesIn), (88, .selects RX12 yX12_chancesIn yX12_chancesIn), (2128, .methodLink RX12 357 yX12_carriesIn), (2130, .instanceMethod yX12_carriesIn), (91, .selects RX12 yX12_carriesIn yX12_carriesIn), (2144, .constant RX12 360 (Int32.ofInt 2000000000)), (2153, .methodLink RX12 361 yX12_bringsIn), (2155, .instanceMethod yX12_bringsIn), (93, .selects RX12 yX12_bringsIn yX12_bringsIn), (2149, .methodLink RX12 364 yX12_papers), (2151, .instanceMethod yX12_papers), (92, .selects RX12 yX12_papers yX12_papers)]
set_option maxRecDepth 100000 in
theorem tK8 : ∀ q ∈ tL8, lw_tbl[q.1]? = some q.2 ∧ goodWord q.2 = true := by decide +kernel
theorem t192 : .instanceMethod yX12_sets ∈ zTg := zin_of (tK8 _ (List.mem_of_getElem? (i := 0) (show tL8[0]? = some (2074, .instanceMethod yX12_sets) from rfl)))
theorem t193 : .selects RX12 yX12_sets yX12_sets ∈ zTg := zin_of (tK8 _ (List.mem_of_getElem? (i := 1) (show tL8[1]? = some (86, .selects RX12 yX12_sets yX12_sets) from rfl)))
theorem t194 : .methodLink RX12 344 yX12_changes ∈ zTg := zin_of (tK8 _ (List.mem_of_getElem? (i := 2) (show tL8[2]? = some (2084, .methodLink RX12 344 yX12_changes) from rfl)))
theorem t195 : .instanceMethod yX12_changes ∈ zTg := zin_of (tK8 _ (List.mem_of_getElem? (i := 3) (show tL8[3]? = some (2086, .instanceMethod yX12_changes) from rfl)))
theorem t196 : .selects RX12 yX12_changes yX12_changes ∈ zTg := zin_of (tK8 _ (List.mem_of_getElem? (i := 4) (show tL8[4]? = some (87, .selects RX12 yX12_changes yX12_changes) from rfl)))
theorem t197 : .methodLink RX12 348 yX12_chancesBegin ∈ zTg := zin_of (tK8 _ (List.mem_of_getElem? (i := 5) (show tL8[5]? = some (2116, .methodLink RX12 348 yX12_chancesBegin) from rfl)))
theorem t198 : .instanceMethod yX12_chancesBegin ∈ zTg := zin_of (tK8 _ (List.mem_of_getElem? (i := 6) (show tL8[6]? = some (2118, .instanceMethod yX12_chancesBegin) from rfl)))
theorem t199 : .selects RX12 yX12_chancesBegin yX12_chancesBegin ∈ zTg := zin_of (tK8 _ (List.mem_of_getElem? (i := 7) (show tL8[7]? = some (89, .selects RX12 yX12_chancesBegin yX12_chancesBegin) from rfl)))
theorem t200 : .methodLink RX12 351 yX12_chancesGo ∈ zTg := zin_of (tK8 _ (List.mem_of_getElem? (i := 8) (show tL8[8]? = some (2120, .methodLink RX12 351 yX12_chancesGo) from rfl)))
theorem t201 : .instanceMethod yX12_chancesGo ∈ zTg := zin_of (tK8 _ (List.mem_of_getElem? (i := 9) (show tL8[9]? = some (2122, .instanceMethod yX12_chancesGo) from rfl)))
theorem t202 : .selects RX12 yX12_chancesGo yX12_chancesGo ∈ zTg := zin_of (tK8 _ (List.mem_of_getElem? (i := 10) (show tL8[10]? = some (90, .selects RX12 yX12_chancesGo yX12_chancesGo) from rfl)))
theorem t203 : .methodLink RX12 354 yX12_chancesIn ∈ zTg := zin_of (tK8 _ (List.mem_of_getElem? (i := 11) (show tL8[11]? = some (2112, .methodLink RX12 354 yX12_chancesIn) from rfl)))
theorem t204 : .instanceMethod yX12_chancesIn ∈ zTg := zin_of (tK8 _ (List.mem_of_getElem? (i := 12) (show tL8[12]? = some (2114, .instanceMethod yX12_chancesIn) from rfl)))
theorem t205 : .selects RX12 yX12_chancesIn yX12_chancesIn ∈ zTg := zin_of (tK8 _ (List.mem_of_getElem? (i := 13) (show tL8[13]? = some (88, .selects RX12 yX12_chancesIn yX12_chancesIn) from rfl)))
theorem t206 : .methodLink RX12 357 yX12_carriesIn ∈ zTg := zin_of (tK8 _ (List.mem_of_getElem? (i := 14) (show tL8[14]? = some (2128, .methodLink RX12 357 yX12_carriesIn) from rfl)))
theorem t207 : .instanceMethod yX12_carriesIn ∈ zTg := zin_of (tK8 _ (List.mem_of_getElem? (i := 15) (show tL8[15]? = some (2130, .instanceMethod yX12_carriesIn) from rfl)))
theorem t208 : .selects RX12 yX12_carriesIn yX12_carriesIn ∈ zTg := zin_of (tK8 _ (List.mem_of_getElem? (i := 16) (show tL8[16]? = some (91, .selects RX12 yX12_carriesIn yX12_carriesIn) from rfl)))
theorem t209 : .constant RX12 360 (Int32.ofInt 2000000000) ∈ zTg := zin_of (tK8 _ (List.mem_of_getElem? (i := 17) (show tL8[17]? = some (2144, .constant RX12 360 (Int32.ofInt 2000000000)) from rfl)))
theorem t210 : .methodLink RX12 361 yX12_bringsIn ∈ zTg := zin_of (tK8 _ (List.mem_of_getElem? (i := 18) (show tL8[18]? = some (2153, .methodLink RX12 361 yX12_bringsIn) from rfl)))
theorem t211 : .instanceMethod yX12_bringsIn ∈ zTg := zin_of (tK8 _ (List.mem_of_getElem? (i := 19) (show tL8[19]? = some (2155, .instanceMethod yX12_bringsIn) from rfl)))
theorem t212 : .selects RX12 yX12_bringsIn yX12_bringsIn ∈ zTg := zin_of (tK8 _ (List.mem_of_getElem? (i := 20) (show tL8[20]? = some (93, .selects RX12 yX12_bringsIn yX12_bringsIn) from rfl)))
theorem t213 : .methodLink RX12 364 yX12_papers ∈ zTg := zin_of (tK8 _ (List.mem_of_getElem? (i := 21) (show tL8[21]? = some (2149, .methodLink RX12 364 yX12_papers) from rfl)))
theorem t214 : .instanceMethod yX12_papers ∈ zTg := zin_of (tK8 _ (List.mem_of_getElem? (i := 22) (show tL8[22]? = some (2151, .instanceMethod yX12_papers) from rfl)))
theorem t215 : .selects RX12 yX12_papers yX12_papers ∈ zTg := zin_of (tK8 _ (List.mem_of_getElem? (i := 23) (show tL8[23]? = some (92, .selects RX12 yX12_papers yX12_papers) from rfl)))
def tL9 : List (Nat × Cond) := [(2161, .methodLink RX12 367 yX12_goesWet), (2163, .instanceMethod yX12_goesWet), (94, .selects RX12 yX12_goesWet yX12_goesWet), (2165, .methodLink RX12 370 yX12_worthOf), (2167, .instanceMethod yX12_worthOf), (95, .selects RX12 yX12_worthOf yX12_worthOf), (2173, .methodLink RX12 373 yX12_isHastier), (2175, .instanceMethod yX12_isHastier), (96, .selects RX12 yX12_isHastier yX12_isHastier), (2197, .methodLink RX12 376 yX12_isWet), (2199, .instanceMethod yX12_isWet), (101, .selects RX12 yX12_isWet yX12_isWet), (2193, .methodLink RX12 379 yX12_fitsCuffs), (2195, .instanceMethod yX12_fitsCuffs), (100, .selects RX12 yX12_fitsCuffs yX12_fitsCuffs), (2185, .methodLink RX12 382 yX12_areCuffs), (2187, .instanceMethod yX12_areCuffs), (98, .selects RX12 yX12_areCuffs yX12_areCuffs), (2189, .methodLink RX12 385 yX12_rows), (2191, .instanceMethod yX12_rows), (99, .selects RX12 yX12_rows yX12_rows), (2181, .methodLink RX12 389 yX12_heard), (2183, .instanceMethod yX12_heard), (97, .selects RX12 yX12_heard yX12_heard)]
set_option maxRecDepth 100000 in
theorem tK9 : ∀ q ∈ tL9, lw_tbl[q.1]? = some q.2 ∧ goodWord q.2 = true := by decide +kernel
theorem t216 : .methodLink RX12 367 yX12_goesWet ∈ zTg := zin_of (tK9 _ (List.mem_of_getElem? (i := 0) (show tL9[0]? = some (2161, .methodLink RX12 367 yX12_goesWet) from rfl)))
theorem t217 : .instanceMethod yX12_goesWet ∈ zTg := zin_of (tK9 _ (List.mem_of_getElem? (i := 1) (show tL9[1]? = some (2163, .instanceMethod yX12_goesWet) from rfl)))
theorem t218 : .selects RX12 yX12_goesWet yX12_goesWet ∈ zTg := zin_of (tK9 _ (List.mem_of_getElem? (i := 2) (show tL9[2]? = some (94, .selects RX12 yX12_goesWet yX12_goesWet) from rfl)))
theorem t219 : .methodLink RX12 370 yX12_worthOf ∈ zTg := zin_of (tK9 _ (List.mem_of_getElem? (i := 3) (show tL9[3]? = some (2165, .methodLink RX12 370 yX12_worthOf) from rfl)))
theorem t220 : .instanceMethod yX12_worthOf ∈ zTg := zin_of (tK9 _ (List.mem_of_getElem? (i := 4) (show tL9[4]? = some (2167, .instanceMethod yX12_worthOf) from rfl)))
theorem t221 : .selects RX12 yX12_worthOf yX12_worthOf ∈ zTg := zin_of (tK9 _ (List.mem_of_getElem? (i := 5) (show tL9[5]? = some (95, .selects RX12 yX12_worthOf yX12_worthOf) from rfl)))
theorem t222 : .methodLink RX12 373 yX12_isHastier ∈ zTg := zin_of (tK9 _ (List.mem_of_getElem? (i := 6) (show tL9[6]? = some (2173, .methodLink RX12 373 yX12_isHastier) from rfl)))
theorem t223 : .instanceMethod yX12_isHastier ∈ zTg := zin_of (tK9 _ (List.mem_of_getElem? (i := 7) (show tL9[7]? = some (2175, .instanceMethod yX12_isHastier) from rfl)))
theorem t224 : .selects RX12 yX12_isHastier yX12_isHastier ∈ zTg := zin_of (tK9 _ (List.mem_of_getElem? (i := 8) (show tL9[8]? = some (96, .selects RX12 yX12_isHastier yX12_isHastier) from rfl)))
theorem t225 : .methodLink RX12 376 yX12_isWet ∈ zTg := zin_of (tK9 _ (List.mem_of_getElem? (i := 9) (show tL9[9]? = some (2197, .methodLink RX12 376 yX12_isWet) from rfl)))
theorem t226 : .instanceMethod yX12_isWet ∈ zTg := zin_of (tK9 _ (List.mem_of_getElem? (i := 10) (show tL9[10]? = some (2199, .instanceMethod yX12_isWet) from rfl)))
theorem t227 : .selects RX12 yX12_isWet yX12_isWet ∈ zTg := zin_of (tK9 _ (List.mem_of_getElem? (i := 11) (show tL9[11]? = some (101, .selects RX12 yX12_isWet yX12_isWet) from rfl)))
theorem t228 : .methodLink RX12 379 yX12_fitsCuffs ∈ zTg := zin_of (tK9 _ (List.mem_of_getElem? (i := 12) (show tL9[12]? = some (2193, .methodLink RX12 379 yX12_fitsCuffs) from rfl)))
theorem t229 : .instanceMethod yX12_fitsCuffs ∈ zTg := zin_of (tK9 _ (List.mem_of_getElem? (i := 13) (show tL9[13]? = some (2195, .instanceMethod yX12_fitsCuffs) from rfl)))
theorem t230 : .selects RX12 yX12_fitsCuffs yX12_fitsCuffs ∈ zTg := zin_of (tK9 _ (List.mem_of_getElem? (i := 14) (show tL9[14]? = some (100, .selects RX12 yX12_fitsCuffs yX12_fitsCuffs) from rfl)))
theorem t231 : .methodLink RX12 382 yX12_areCuffs ∈ zTg := zin_of (tK9 _ (List.mem_of_getElem? (i := 15) (show tL9[15]? = some (2185, .methodLink RX12 382 yX12_areCuffs) from rfl)))
theorem t232 : .instanceMethod yX12_areCuffs ∈ zTg := zin_of (tK9 _ (List.mem_of_getElem? (i := 16) (show tL9[16]? = some (2187, .instanceMethod yX12_areCuffs) from rfl)))
theorem t233 : .selects RX12 yX12_areCuffs yX12_areCuffs ∈ zTg := zin_of (tK9 _ (List.mem_of_getElem? (i := 17) (show tL9[17]? = some (98, .selects RX12 yX12_areCuffs yX12_areCuffs) from rfl)))
theorem t234 : .methodLink RX12 385 yX12_rows ∈ zTg := zin_of (tK9 _ (List.mem_of_getElem? (i := 18) (show tL9[18]? = some (2189, .methodLink RX12 385 yX12_rows) from rfl)))
theorem t235 : .instanceMethod yX12_rows ∈ zTg := zin_of (tK9 _ (List.mem_of_getElem? (i := 19) (show tL9[19]? = some (2191, .instanceMethod yX12_rows) from rfl)))
theorem t236 : .selects RX12 yX12_rows yX12_rows ∈ zTg := zin_of (tK9 _ (List.mem_of_getElem? (i := 20) (show tL9[20]? = some (99, .selects RX12 yX12_rows yX12_rows) from rfl)))
theorem t237 : .methodLink RX12 389 yX12_heard ∈ zTg := zin_of (tK9 _ (List.mem_of_getElem? (i := 21) (show tL9[21]? = some (2181, .methodLink RX12 389 yX12_heard) from rfl)))
theorem t238 : .instanceMethod yX12_heard ∈ zTg := zin_of (tK9 _ (List.mem_of_getElem? (i := 22) (show tL9[22]? = some (2183, .instanceMethod yX12_heard) from rfl)))
theorem t239 : .selects RX12 yX12_heard yX12_heard ∈ zTg := zin_of (tK9 _ (List.mem_of_getElem? (i := 23) (show tL9[23]? = some (97, .selects RX12 yX12_heard yX12_heard) from rfl)))
def tL10 : List (Nat × Cond) := [(2201, .methodLink RX12 392 yX12_skiesNow), (2203, .instanceMethod yX12_skiesNow), (102, .selects RX12 yX12_skiesNow yX12_skiesNow), (2205, .methodLink RX12 395 yX12_waysOfAll), (2207, .instanceMethod yX12_waysOfAll), (103, .selects RX12 yX12_waysOfAll yX12_waysOfAll), (2209, .constantLong RX12 399 (Int64.ofInt 9999)), (2226, .methodLink RX12 401 yX12_seenBy), (2228, .instanceMethod yX12_seenBy), (104, .selects RX12 yX12_seenBy yX12_seenBy), (2234, .methodLink RX12 404 yX12_postsOf), (2236, .instanceMethod yX12_postsOf), (105, .selects RX12 yX12_postsOf yX12_postsOf), (2246, .methodLink RX12 407 yX12_votesOf), (2248, .instanceMethod yX12_votesOf), (107, .selects RX12 yX12_votesOf yX12_votesOf), (2250, .methodLink RX12 410 yX12_voters), (2252, .instanceMethod yX12_voters), (108, .selects RX12 yX12_voters yX12_voters), (2242, .methodLink RX12 413 yX12_winsBy), (2244, .instanceMethod yX12_winsBy), (106, .selects RX12 yX12_winsBy yX12_winsBy), (2266, .methodLink RX12 416 yX12_swingsBy), (2268, .instanceMethod yX12_swingsBy)]
set_option maxRecDepth 100000 in
theorem tK10 : ∀ q ∈ tL10, lw_tbl[q.1]? = some q.2 ∧ goodWord q.2 = true := by decide +kernel
theorem t240 : .methodLink RX12 392 yX12_skiesNow ∈ zTg := zin_of (tK10 _ (List.mem_of_getElem? (i := 0) (show tL10[0]? = some (2201, .methodLink RX12 392 yX12_skiesNow) from rfl)))
theorem t241 : .instanceMethod yX12_skiesNow ∈ zTg := zin_of (tK10 _ (List.mem_of_getElem? (i := 1) (show tL10[1]? = some (2203, .instanceMethod yX12_skiesNow) from rfl)))
theorem t242 : .selects RX12 yX12_skiesNow yX12_skiesNow ∈ zTg := zin_of (tK10 _ (List.mem_of_getElem? (i := 2) (show tL10[2]? = some (102, .selects RX12 yX12_skiesNow yX12_skiesNow) from rfl)))
theorem t243 : .methodLink RX12 395 yX12_waysOfAll ∈ zTg := zin_of (tK10 _ (List.mem_of_getElem? (i := 3) (show tL10[3]? = some (2205, .methodLink RX12 395 yX12_waysOfAll) from rfl)))
theorem t244 : .instanceMethod yX12_waysOfAll ∈ zTg := zin_of (tK10 _ (List.mem_of_getElem? (i := 4) (show tL10[4]? = some (2207, .instanceMethod yX12_waysOfAll) from rfl)))
theorem t245 : .selects RX12 yX12_waysOfAll yX12_waysOfAll ∈ zTg := zin_of (tK10 _ (List.mem_of_getElem? (i := 5) (show tL10[5]? = some (103, .selects RX12 yX12_waysOfAll yX12_waysOfAll) from rfl)))
theorem t246 : .constantLong RX12 399 (Int64.ofInt 9999) ∈ zTg := zin_of (tK10 _ (List.mem_of_getElem? (i := 6) (show tL10[6]? = some (2209, .constantLong RX12 399 (Int64.ofInt 9999)) from rfl)))
theorem t247 : .methodLink RX12 401 yX12_seenBy ∈ zTg := zin_of (tK10 _ (List.mem_of_getElem? (i := 7) (show tL10[7]? = some (2226, .methodLink RX12 401 yX12_seenBy) from rfl)))
theorem t248 : .instanceMethod yX12_seenBy ∈ zTg := zin_of (tK10 _ (List.mem_of_getElem? (i := 8) (show tL10[8]? = some (2228, .instanceMethod yX12_seenBy) from rfl)))
theorem t249 : .selects RX12 yX12_seenBy yX12_seenBy ∈ zTg := zin_of (tK10 _ (List.mem_of_getElem? (i := 9) (show tL10[9]? = some (104, .selects RX12 yX12_seenBy yX12_seenBy) from rfl)))
theorem t250 : .methodLink RX12 404 yX12_postsOf ∈ zTg := zin_of (tK10 _ (List.mem_of_getElem? (i := 10) (show tL10[10]? = some (2234, .methodLink RX12 404 yX12_postsOf) from rfl)))
theorem t251 : .instanceMethod yX12_postsOf ∈ zTg := zin_of (tK10 _ (List.mem_of_getElem? (i := 11) (show tL10[11]? = some (2236, .instanceMethod yX12_postsOf) from rfl)))
theorem t252 : .selects RX12 yX12_postsOf yX12_postsOf ∈ zTg := zin_of (tK10 _ (List.mem_of_getElem? (i := 12) (show tL10[12]? = some (105, .selects RX12 yX12_postsOf yX12_postsOf) from rfl)))
theorem t253 : .methodLink RX12 407 yX12_votesOf ∈ zTg := zin_of (tK10 _ (List.mem_of_getElem? (i := 13) (show tL10[13]? = some (2246, .methodLink RX12 407 yX12_votesOf) from rfl)))
theorem t254 : .instanceMethod yX12_votesOf ∈ zTg := zin_of (tK10 _ (List.mem_of_getElem? (i := 14) (show tL10[14]? = some (2248, .instanceMethod yX12_votesOf) from rfl)))
theorem t255 : .selects RX12 yX12_votesOf yX12_votesOf ∈ zTg := zin_of (tK10 _ (List.mem_of_getElem? (i := 15) (show tL10[15]? = some (107, .selects RX12 yX12_votesOf yX12_votesOf) from rfl)))
theorem t256 : .methodLink RX12 410 yX12_voters ∈ zTg := zin_of (tK10 _ (List.mem_of_getElem? (i := 16) (show tL10[16]? = some (2250, .methodLink RX12 410 yX12_voters) from rfl)))
theorem t257 : .instanceMethod yX12_voters ∈ zTg := zin_of (tK10 _ (List.mem_of_getElem? (i := 17) (show tL10[17]? = some (2252, .instanceMethod yX12_voters) from rfl)))
theorem t258 : .selects RX12 yX12_voters yX12_voters ∈ zTg := zin_of (tK10 _ (List.mem_of_getElem? (i := 18) (show tL10[18]? = some (108, .selects RX12 yX12_voters yX12_voters) from rfl)))
theorem t259 : .methodLink RX12 413 yX12_winsBy ∈ zTg := zin_of (tK10 _ (List.mem_of_getElem? (i := 19) (show tL10[19]? = some (2242, .methodLink RX12 413 yX12_winsBy) from rfl)))
theorem t260 : .instanceMethod yX12_winsBy ∈ zTg := zin_of (tK10 _ (List.mem_of_getElem? (i := 20) (show tL10[20]? = some (2244, .instanceMethod yX12_winsBy) from rfl)))
theorem t261 : .selects RX12 yX12_winsBy yX12_winsBy ∈ zTg := zin_of (tK10 _ (List.mem_of_getElem? (i := 21) (show tL10[21]? = some (106, .selects RX12 yX12_winsBy yX12_winsBy) from rfl)))
theorem t262 : .methodLink RX12 416 yX12_swingsBy ∈ zTg := zin_of (tK10 _ (List.mem_of_getElem? (i := 22) (show tL10[22]? = some (2266, .methodLink RX12 416 yX12_swingsBy) from rfl)))
theorem t263 : .instanceMethod yX12_swingsBy ∈ zTg := zin_of (tK10 _ (List.mem_of_getElem? (i := 23) (show tL10[23]? = some (2268, .instanceMethod yX12_swingsBy) from rfl)))
def tL11 : List (Nat × Cond) := [(111, .selects RX12 yX12_swingsBy yX12_swingsBy), (2258, .methodLink RX12 419 yX12_isVoter), (2260, .instanceMethod yX12_isVoter), (109, .selects RX12 yX12_isVoter yX12_isVoter), (2262, .methodLink RX12 422 yX12_swingsOf), (2264, .instanceMethod yX12_swingsOf), (110, .selects RX12 yX12_swingsOf yX12_swingsOf), (2278, .methodLink RX12 425 yX12_isLeast), (2280, .instanceMethod yX12_isLeast), (112, .selects RX12 yX12_isLeast yX12_isLeast), (2290, .methodLink RX12 428 yX12_goesWetBy), (2292, .instanceMethod yX12_goesWetBy), (113, .selects RX12 yX12_goesWetBy yX12_goesWetBy), (2298, .methodLink RX12 431 yX12_parts), (2300, .instanceMethod yX12_parts), (114, .selects RX12 yX12_parts yX12_parts), (2306, .methodLink RX12 434 yX12_likeOf), (2308, .instanceMethod yX12_likeOf), (115, .selects RX12 yX12_likeOf yX12_likeOf), (2318, .methodLink RX12 437 yX12_dryOf), (2320, .instanceMethod yX12_dryOf), (116, .selects RX12 yX12_dryOf yX12_dryOf), (2342, .methodLink RX12 440 yX12_movedHas), (2344, .instanceMethod yX12_movedHas)]
set_option maxRecDepth 100000 in
theorem tK11 : ∀ q ∈ tL11, lw_tbl[q.1]? = some q.2 ∧ goodWord q.2 = true := by decide +kernel
theorem t264 : .selects RX12 yX12_swingsBy yX12_swingsBy ∈ zTg := zin_of (tK11 _ (List.mem_of_getElem? (i := 0) (show tL11[0]? = some (111, .selects RX12 yX12_swingsBy yX12_swingsBy) from rfl)))
theorem t265 : .methodLink RX12 419 yX12_isVoter ∈ zTg := zin_of (tK11 _ (List.mem_of_getElem? (i := 1) (show tL11[1]? = some (2258, .methodLink RX12 419 yX12_isVoter) from rfl)))
theorem t266 : .instanceMethod yX12_isVoter ∈ zTg := zin_of (tK11 _ (List.mem_of_getElem? (i := 2) (show tL11[2]? = some (2260, .instanceMethod yX12_isVoter) from rfl)))
theorem t267 : .selects RX12 yX12_isVoter yX12_isVoter ∈ zTg := zin_of (tK11 _ (List.mem_of_getElem? (i := 3) (show tL11[3]? = some (109, .selects RX12 yX12_isVoter yX12_isVoter) from rfl)))
theorem t268 : .methodLink RX12 422 yX12_swingsOf ∈ zTg := zin_of (tK11 _ (List.mem_of_getElem? (i := 4) (show tL11[4]? = some (2262, .methodLink RX12 422 yX12_swingsOf) from rfl)))
theorem t269 : .instanceMethod yX12_swingsOf ∈ zTg := zin_of (tK11 _ (List.mem_of_getElem? (i := 5) (show tL11[5]? = some (2264, .instanceMethod yX12_swingsOf) from rfl)))
theorem t270 : .selects RX12 yX12_swingsOf yX12_swingsOf ∈ zTg := zin_of (tK11 _ (List.mem_of_getElem? (i := 6) (show tL11[6]? = some (110, .selects RX12 yX12_swingsOf yX12_swingsOf) from rfl)))
theorem t271 : .methodLink RX12 425 yX12_isLeast ∈ zTg := zin_of (tK11 _ (List.mem_of_getElem? (i := 7) (show tL11[7]? = some (2278, .methodLink RX12 425 yX12_isLeast) from rfl)))
theorem t272 : .instanceMethod yX12_isLeast ∈ zTg := zin_of (tK11 _ (List.mem_of_getElem? (i := 8) (show tL11[8]? = some (2280, .instanceMethod yX12_isLeast) from rfl)))
theorem t273 : .selects RX12 yX12_isLeast yX12_isLeast ∈ zTg := zin_of (tK11 _ (List.mem_of_getElem? (i := 9) (show tL11[9]? = some (112, .selects RX12 yX12_isLeast yX12_isLeast) from rfl)))
theorem t274 : .methodLink RX12 428 yX12_goesWetBy ∈ zTg := zin_of (tK11 _ (List.mem_of_getElem? (i := 10) (show tL11[10]? = some (2290, .methodLink RX12 428 yX12_goesWetBy) from rfl)))
theorem t275 : .instanceMethod yX12_goesWetBy ∈ zTg := zin_of (tK11 _ (List.mem_of_getElem? (i := 11) (show tL11[11]? = some (2292, .instanceMethod yX12_goesWetBy) from rfl)))
theorem t276 : .selects RX12 yX12_goesWetBy yX12_goesWetBy ∈ zTg := zin_of (tK11 _ (List.mem_of_getElem? (i := 12) (show tL11[12]? = some (113, .selects RX12 yX12_goesWetBy yX12_goesWetBy) from rfl)))
theorem t277 : .methodLink RX12 431 yX12_parts ∈ zTg := zin_of (tK11 _ (List.mem_of_getElem? (i := 13) (show tL11[13]? = some (2298, .methodLink RX12 431 yX12_parts) from rfl)))
theorem t278 : .instanceMethod yX12_parts ∈ zTg := zin_of (tK11 _ (List.mem_of_getElem? (i := 14) (show tL11[14]? = some (2300, .instanceMethod yX12_parts) from rfl)))
theorem t279 : .selects RX12 yX12_parts yX12_parts ∈ zTg := zin_of (tK11 _ (List.mem_of_getElem? (i := 15) (show tL11[15]? = some (114, .selects RX12 yX12_parts yX12_parts) from rfl)))
theorem t280 : .methodLink RX12 434 yX12_likeOf ∈ zTg := zin_of (tK11 _ (List.mem_of_getElem? (i := 16) (show tL11[16]? = some (2306, .methodLink RX12 434 yX12_likeOf) from rfl)))
theorem t281 : .instanceMethod yX12_likeOf ∈ zTg := zin_of (tK11 _ (List.mem_of_getElem? (i := 17) (show tL11[17]? = some (2308, .instanceMethod yX12_likeOf) from rfl)))
theorem t282 : .selects RX12 yX12_likeOf yX12_likeOf ∈ zTg := zin_of (tK11 _ (List.mem_of_getElem? (i := 18) (show tL11[18]? = some (115, .selects RX12 yX12_likeOf yX12_likeOf) from rfl)))
theorem t283 : .methodLink RX12 437 yX12_dryOf ∈ zTg := zin_of (tK11 _ (List.mem_of_getElem? (i := 19) (show tL11[19]? = some (2318, .methodLink RX12 437 yX12_dryOf) from rfl)))
theorem t284 : .instanceMethod yX12_dryOf ∈ zTg := zin_of (tK11 _ (List.mem_of_getElem? (i := 20) (show tL11[20]? = some (2320, .instanceMethod yX12_dryOf) from rfl)))
theorem t285 : .selects RX12 yX12_dryOf yX12_dryOf ∈ zTg := zin_of (tK11 _ (List.mem_of_getElem? (i := 21) (show tL11[21]? = some (116, .selects RX12 yX12_dryOf yX12_dryOf) from rfl)))
theorem t286 : .methodLink RX12 440 yX12_movedHas ∈ zTg := zin_of (tK11 _ (List.mem_of_getElem? (i := 22) (show tL11[22]? = some (2342, .methodLink RX12 440 yX12_movedHas) from rfl)))
theorem t287 : .instanceMethod yX12_movedHas ∈ zTg := zin_of (tK11 _ (List.mem_of_getElem? (i := 23) (show tL11[23]? = some (2344, .instanceMethod yX12_movedHas) from rfl)))
def tL12 : List (Nat × Cond) := [(118, .selects RX12 yX12_movedHas yX12_movedHas), (2338, .methodLink RX12 444 yX12_moverHas), (2340, .instanceMethod yX12_moverHas), (117, .selects RX12 yX12_moverHas yX12_moverHas), (2346, .methodLink RX12 447 yX12_othersHave), (2348, .instanceMethod yX12_othersHave), (119, .selects RX12 yX12_othersHave yX12_othersHave), (2370, .methodLink RX12 450 yX12_inState), (2372, .instanceMethod yX12_inState), (120, .selects RX12 yX12_inState yX12_inState), (2382, .methodLink RX12 453 yX12_logged), (2384, .instanceMethod yX12_logged), (121, .selects RX12 yX12_logged yX12_logged), (1686, .fieldLink RX12 456 "DrizzleVoteModel" "hasImage" "Z"), (1681, .code yX12_init cX12_init 2 none), (136, .initialized RX12), (1766, .code yX12_thrown cX12_thrown 1 (some .int)), (1777, .code yX12_isIn cX12_isIn 3 (some .boolean)), (2012, .code yX12_lesser cX12_lesser 2 (some .int)), (2015, .code yX12_greater cX12_greater 2 (some .int)), (1963, .code yX12_isOf cX12_isOf 2 (some .boolean)), (2034, .code yX12_bits cX12_bits 3 (some .int)), (1952, .code yX12_of cX12_of 3 (some .int)), (1960, .code yX12_ofMotion cX12_ofMotion 3 (some .int))]
set_option maxRecDepth 100000 in
theorem tK12 : ∀ q ∈ tL12, lw_tbl[q.1]? = some q.2 ∧ goodWord q.2 = true := by decide +kernel
theorem t288 : .selects RX12 yX12_movedHas yX12_movedHas ∈ zTg := zin_of (tK12 _ (List.mem_of_getElem? (i := 0) (show tL12[0]? = some (118, .selects RX12 yX12_movedHas yX12_movedHas) from rfl)))
theorem t289 : .methodLink RX12 444 yX12_moverHas ∈ zTg := zin_of (tK12 _ (List.mem_of_getElem? (i := 1) (show tL12[1]? = some (2338, .methodLink RX12 444 yX12_moverHas) from rfl)))
theorem t290 : .instanceMethod yX12_moverHas ∈ zTg := zin_of (tK12 _ (List.mem_of_getElem? (i := 2) (show tL12[2]? = some (2340, .instanceMethod yX12_moverHas) from rfl)))
theorem t291 : .selects RX12 yX12_moverHas yX12_moverHas ∈ zTg := zin_of (tK12 _ (List.mem_of_getElem? (i := 3) (show tL12[3]? = some (117, .selects RX12 yX12_moverHas yX12_moverHas) from rfl)))
theorem t292 : .methodLink RX12 447 yX12_othersHave ∈ zTg := zin_of (tK12 _ (List.mem_of_getElem? (i := 4) (show tL12[4]? = some (2346, .methodLink RX12 447 yX12_othersHave) from rfl)))
theorem t293 : .instanceMethod yX12_othersHave ∈ zTg := zin_of (tK12 _ (List.mem_of_getElem? (i := 5) (show tL12[5]? = some (2348, .instanceMethod yX12_othersHave) from rfl)))
theorem t294 : .selects RX12 yX12_othersHave yX12_othersHave ∈ zTg := zin_of (tK12 _ (List.mem_of_getElem? (i := 6) (show tL12[6]? = some (119, .selects RX12 yX12_othersHave yX12_othersHave) from rfl)))
theorem t295 : .methodLink RX12 450 yX12_inState ∈ zTg := zin_of (tK12 _ (List.mem_of_getElem? (i := 7) (show tL12[7]? = some (2370, .methodLink RX12 450 yX12_inState) from rfl)))
theorem t296 : .instanceMethod yX12_inState ∈ zTg := zin_of (tK12 _ (List.mem_of_getElem? (i := 8) (show tL12[8]? = some (2372, .instanceMethod yX12_inState) from rfl)))
theorem t297 : .selects RX12 yX12_inState yX12_inState ∈ zTg := zin_of (tK12 _ (List.mem_of_getElem? (i := 9) (show tL12[9]? = some (120, .selects RX12 yX12_inState yX12_inState) from rfl)))
theorem t298 : .methodLink RX12 453 yX12_logged ∈ zTg := zin_of (tK12 _ (List.mem_of_getElem? (i := 10) (show tL12[10]? = some (2382, .methodLink RX12 453 yX12_logged) from rfl)))
theorem t299 : .instanceMethod yX12_logged ∈ zTg := zin_of (tK12 _ (List.mem_of_getElem? (i := 11) (show tL12[11]? = some (2384, .instanceMethod yX12_logged) from rfl)))
theorem t300 : .selects RX12 yX12_logged yX12_logged ∈ zTg := zin_of (tK12 _ (List.mem_of_getElem? (i := 12) (show tL12[12]? = some (121, .selects RX12 yX12_logged yX12_logged) from rfl)))
theorem t301 : .fieldLink RX12 456 "DrizzleVoteModel" "hasImage" "Z" ∈ zTg := zin_of (tK12 _ (List.mem_of_getElem? (i := 13) (show tL12[13]? = some (1686, .fieldLink RX12 456 "DrizzleVoteModel" "hasImage" "Z") from rfl)))
theorem t302 : .code yX12_init cX12_init 2 none ∈ zTg := zin_of (tK12 _ (List.mem_of_getElem? (i := 14) (show tL12[14]? = some (1681, .code yX12_init cX12_init 2 none) from rfl)))
theorem t303 : .initialized RX12 ∈ zTg := zin_of (tK12 _ (List.mem_of_getElem? (i := 15) (show tL12[15]? = some (136, .initialized RX12) from rfl)))
theorem t304 : .code yX12_thrown cX12_thrown 1 (some .int) ∈ zTg := zin_of (tK12 _ (List.mem_of_getElem? (i := 16) (show tL12[16]? = some (1766, .code yX12_thrown cX12_thrown 1 (some .int)) from rfl)))
theorem t305 : .code yX12_isIn cX12_isIn 3 (some .boolean) ∈ zTg := zin_of (tK12 _ (List.mem_of_getElem? (i := 17) (show tL12[17]? = some (1777, .code yX12_isIn cX12_isIn 3 (some .boolean)) from rfl)))
theorem t306 : .code yX12_lesser cX12_lesser 2 (some .int) ∈ zTg := zin_of (tK12 _ (List.mem_of_getElem? (i := 18) (show tL12[18]? = some (2012, .code yX12_lesser cX12_lesser 2 (some .int)) from rfl)))
theorem t307 : .code yX12_greater cX12_greater 2 (some .int) ∈ zTg := zin_of (tK12 _ (List.mem_of_getElem? (i := 19) (show tL12[19]? = some (2015, .code yX12_greater cX12_greater 2 (some .int)) from rfl)))
theorem t308 : .code yX12_isOf cX12_isOf 2 (some .boolean) ∈ zTg := zin_of (tK12 _ (List.mem_of_getElem? (i := 20) (show tL12[20]? = some (1963, .code yX12_isOf cX12_isOf 2 (some .boolean)) from rfl)))
theorem t309 : .code yX12_bits cX12_bits 3 (some .int) ∈ zTg := zin_of (tK12 _ (List.mem_of_getElem? (i := 21) (show tL12[21]? = some (2034, .code yX12_bits cX12_bits 3 (some .int)) from rfl)))
theorem t310 : .code yX12_of cX12_of 3 (some .int) ∈ zTg := zin_of (tK12 _ (List.mem_of_getElem? (i := 22) (show tL12[22]? = some (1952, .code yX12_of cX12_of 3 (some .int)) from rfl)))
theorem t311 : .code yX12_ofMotion cX12_ofMotion 3 (some .int) ∈ zTg := zin_of (tK12 _ (List.mem_of_getElem? (i := 23) (show tL12[23]? = some (1960, .code yX12_ofMotion cX12_ofMotion 3 (some .int)) from rfl)))
def tL13 : List (Nat × Cond) := [(1948, .code yX12_isMember cX12_isMember 2 (some .boolean)), (1975, .code yX12_isMotion cX12_isMotion 2 (some .boolean)), (1982, .code yX12_isSky cX12_isSky 1 (some .boolean)), (1997, .code yX12_isHour cX12_isHour 1 (some .boolean)), (2063, .code yX12_waits cX12_waits 2 (some .boolean)), (1986, .code yX12_weight cX12_weight 3 (some .int)), (2054, .code yX12_weights cX12_weights 4 (some .int)), (2031, .code yX12_outs cX12_outs 3 (some .int)), (2373, .code yX12_inState cX12_inState 4 (some .int)), (1927, .code yX12_standsIn cX12_standsIn 4 (some .int)), (1770, .code yX12_feed cX12_feed 8 (some .int)), (1774, .code yX12_end cX12_end 2 (some .boolean)), (1801, .code yX12_letter cX12_letter 2 (some .int)), (1797, .code yX12_skip cX12_skip 1 none), (1844, .code yX12_isSign cX12_isSign 2 (some .boolean)), (1814, .code yX12_has cX12_has 4 (some .boolean)), (1805, .code yX12_wrong cX12_wrong 2 none), (1826, .code yX12_here cX12_here 1 (some .int)), (1822, .code yX12_figures cX12_figures 5 (some .int)), (1881, .code yX12_after cX12_after 4 (some .int)), (1876, .code yX12_memberLine cX12_memberLine 7 none), (1893, .code yX12_row cX12_row 6 (some .int)), (1886, .code yX12_motionLine cX12_motionLine 8 none), (1901, .code yX12_sky cX12_sky 2 (some .int))]
set_option maxRecDepth 100000 in
theorem tK13 : ∀ q ∈ tL13, lw_tbl[q.1]? = some q.2 ∧ goodWord q.2 = true := by decide +kernel
theorem t312 : .code yX12_isMember cX12_isMember 2 (some .boolean) ∈ zTg := zin_of (tK13 _ (List.mem_of_getElem? (i := 0) (show tL13[0]? = some (1948, .code yX12_isMember cX12_isMember 2 (some .boolean)) from rfl)))
theorem t313 : .code yX12_isMotion cX12_isMotion 2 (some .boolean) ∈ zTg := zin_of (tK13 _ (List.mem_of_getElem? (i := 1) (show tL13[1]? = some (1975, .code yX12_isMotion cX12_isMotion 2 (some .boolean)) from rfl)))
theorem t314 : .code yX12_isSky cX12_isSky 1 (some .boolean) ∈ zTg := zin_of (tK13 _ (List.mem_of_getElem? (i := 2) (show tL13[2]? = some (1982, .code yX12_isSky cX12_isSky 1 (some .boolean)) from rfl)))
theorem t315 : .code yX12_isHour cX12_isHour 1 (some .boolean) ∈ zTg := zin_of (tK13 _ (List.mem_of_getElem? (i := 3) (show tL13[3]? = some (1997, .code yX12_isHour cX12_isHour 1 (some .boolean)) from rfl)))
theorem t316 : .code yX12_waits cX12_waits 2 (some .boolean) ∈ zTg := zin_of (tK13 _ (List.mem_of_getElem? (i := 4) (show tL13[4]? = some (2063, .code yX12_waits cX12_waits 2 (some .boolean)) from rfl)))
theorem t317 : .code yX12_weight cX12_weight 3 (some .int) ∈ zTg := zin_of (tK13 _ (List.mem_of_getElem? (i := 5) (show tL13[5]? = some (1986, .code yX12_weight cX12_weight 3 (some .int)) from rfl)))
theorem t318 : .code yX12_weights cX12_weights 4 (some .int) ∈ zTg := zin_of (tK13 _ (List.mem_of_getElem? (i := 6) (show tL13[6]? = some (2054, .code yX12_weights cX12_weights 4 (some .int)) from rfl)))
theorem t319 : .code yX12_outs cX12_outs 3 (some .int) ∈ zTg := zin_of (tK13 _ (List.mem_of_getElem? (i := 7) (show tL13[7]? = some (2031, .code yX12_outs cX12_outs 3 (some .int)) from rfl)))
theorem t320 : .code yX12_inState cX12_inState 4 (some .int) ∈ zTg := zin_of (tK13 _ (List.mem_of_getElem? (i := 8) (show tL13[8]? = some (2373, .code yX12_inState cX12_inState 4 (some .int)) from rfl)))
theorem t321 : .code yX12_standsIn cX12_standsIn 4 (some .int) ∈ zTg := zin_of (tK13 _ (List.mem_of_getElem? (i := 9) (show tL13[9]? = some (1927, .code yX12_standsIn cX12_standsIn 4 (some .int)) from rfl)))
theorem t322 : .code yX12_feed cX12_feed 8 (some .int) ∈ zTg := zin_of (tK13 _ (List.mem_of_getElem? (i := 10) (show tL13[10]? = some (1770, .code yX12_feed cX12_feed 8 (some .int)) from rfl)))
theorem t323 : .code yX12_end cX12_end 2 (some .boolean) ∈ zTg := zin_of (tK13 _ (List.mem_of_getElem? (i := 11) (show tL13[11]? = some (1774, .code yX12_end cX12_end 2 (some .boolean)) from rfl)))
theorem t324 : .code yX12_letter cX12_letter 2 (some .int) ∈ zTg := zin_of (tK13 _ (List.mem_of_getElem? (i := 12) (show tL13[12]? = some (1801, .code yX12_letter cX12_letter 2 (some .int)) from rfl)))
theorem t325 : .code yX12_skip cX12_skip 1 none ∈ zTg := zin_of (tK13 _ (List.mem_of_getElem? (i := 13) (show tL13[13]? = some (1797, .code yX12_skip cX12_skip 1 none) from rfl)))
theorem t326 : .code yX12_isSign cX12_isSign 2 (some .boolean) ∈ zTg := zin_of (tK13 _ (List.mem_of_getElem? (i := 14) (show tL13[14]? = some (1844, .code yX12_isSign cX12_isSign 2 (some .boolean)) from rfl)))
theorem t327 : .code yX12_has cX12_has 4 (some .boolean) ∈ zTg := zin_of (tK13 _ (List.mem_of_getElem? (i := 15) (show tL13[15]? = some (1814, .code yX12_has cX12_has 4 (some .boolean)) from rfl)))
theorem t328 : .code yX12_wrong cX12_wrong 2 none ∈ zTg := zin_of (tK13 _ (List.mem_of_getElem? (i := 16) (show tL13[16]? = some (1805, .code yX12_wrong cX12_wrong 2 none) from rfl)))
theorem t329 : .code yX12_here cX12_here 1 (some .int) ∈ zTg := zin_of (tK13 _ (List.mem_of_getElem? (i := 17) (show tL13[17]? = some (1826, .code yX12_here cX12_here 1 (some .int)) from rfl)))
theorem t330 : .code yX12_figures cX12_figures 5 (some .int) ∈ zTg := zin_of (tK13 _ (List.mem_of_getElem? (i := 18) (show tL13[18]? = some (1822, .code yX12_figures cX12_figures 5 (some .int)) from rfl)))
theorem t331 : .code yX12_after cX12_after 4 (some .int) ∈ zTg := zin_of (tK13 _ (List.mem_of_getElem? (i := 19) (show tL13[19]? = some (1881, .code yX12_after cX12_after 4 (some .int)) from rfl)))
theorem t332 : .code yX12_memberLine cX12_memberLine 7 none ∈ zTg := zin_of (tK13 _ (List.mem_of_getElem? (i := 20) (show tL13[20]? = some (1876, .code yX12_memberLine cX12_memberLine 7 none) from rfl)))
theorem t333 : .code yX12_row cX12_row 6 (some .int) ∈ zTg := zin_of (tK13 _ (List.mem_of_getElem? (i := 21) (show tL13[21]? = some (1893, .code yX12_row cX12_row 6 (some .int)) from rfl)))
theorem t334 : .code yX12_motionLine cX12_motionLine 8 none ∈ zTg := zin_of (tK13 _ (List.mem_of_getElem? (i := 22) (show tL13[22]? = some (1886, .code yX12_motionLine cX12_motionLine 8 none) from rfl)))
theorem t335 : .code yX12_sky cX12_sky 2 (some .int) ∈ zTg := zin_of (tK13 _ (List.mem_of_getElem? (i := 23) (show tL13[23]? = some (1901, .code yX12_sky cX12_sky 2 (some .int)) from rfl)))
def tL14 : List (Nat × Cond) := [(1897, .code yX12_skyLine cX12_skyLine 5 none), (1912, .code yX12_placeLine cX12_placeLine 3 none), (1923, .code yX12_paperLine cX12_paperLine 5 none), (1917, .code yX12_tells cX12_tells 5 none), (1872, .code yX12_coastLine cX12_coastLine 3 none), (1789, .code yX12_begins cX12_begins 1 none), (1793, .code yX12_read cX12_read 4 (some .int)), (1785, .code yX12_putsAside cX12_putsAside 2 none), (1932, .code yX12_comesBack cX12_comesBack 2 none), (1781, .code yX12_coast cX12_coast 2 (some .int)), (1859, .code yX12_part cX12_part 2 (some .int)), (1855, .code yX12_sum cX12_sum 2 (some .int)), (1848, .code yX12_plain cX12_plain 4 (some .boolean)), (1839, .code yX12_atom cX12_atom 4 (some .boolean)), (1835, .code yX12_every cX12_every 3 (some .boolean)), (1831, .code yX12_some cX12_some 3 (some .boolean)), (1809, .code yX12_lawLine cX12_lawLine 4 none), (1936, .code yX12_law cX12_law 3 (some .int)), (1940, .code yX12_fault cX12_fault 1 (some .int)), (2009, .code yX12_asks cX12_asks 7 none), (2005, .code yX12_feltBy cX12_feltBy 6 (some .int)), (2027, .code yX12_lapsesIn cX12_lapsesIn 4 (some .boolean)), (2023, .code yX12_goesIn cX12_goesIn 8 (some .int)), (2164, .code yX12_goesWet cX12_goesWet 2 (some .boolean))]
set_option maxRecDepth 100000 in
theorem tK14 : ∀ q ∈ tL14, lw_tbl[q.1]? = some q.2 ∧ goodWord q.2 = true := by decide +kernel
theorem t336 : .code yX12_skyLine cX12_skyLine 5 none ∈ zTg := zin_of (tK14 _ (List.mem_of_getElem? (i := 0) (show tL14[0]? = some (1897, .code yX12_skyLine cX12_skyLine 5 none) from rfl)))
theorem t337 : .code yX12_placeLine cX12_placeLine 3 none ∈ zTg := zin_of (tK14 _ (List.mem_of_getElem? (i := 1) (show tL14[1]? = some (1912, .code yX12_placeLine cX12_placeLine 3 none) from rfl)))
theorem t338 : .code yX12_paperLine cX12_paperLine 5 none ∈ zTg := zin_of (tK14 _ (List.mem_of_getElem? (i := 2) (show tL14[2]? = some (1923, .code yX12_paperLine cX12_paperLine 5 none) from rfl)))
theorem t339 : .code yX12_tells cX12_tells 5 none ∈ zTg := zin_of (tK14 _ (List.mem_of_getElem? (i := 3) (show tL14[3]? = some (1917, .code yX12_tells cX12_tells 5 none) from rfl)))
theorem t340 : .code yX12_coastLine cX12_coastLine 3 none ∈ zTg := zin_of (tK14 _ (List.mem_of_getElem? (i := 4) (show tL14[4]? = some (1872, .code yX12_coastLine cX12_coastLine 3 none) from rfl)))
theorem t341 : .code yX12_begins cX12_begins 1 none ∈ zTg := zin_of (tK14 _ (List.mem_of_getElem? (i := 5) (show tL14[5]? = some (1789, .code yX12_begins cX12_begins 1 none) from rfl)))
theorem t342 : .code yX12_read cX12_read 4 (some .int) ∈ zTg := zin_of (tK14 _ (List.mem_of_getElem? (i := 6) (show tL14[6]? = some (1793, .code yX12_read cX12_read 4 (some .int)) from rfl)))
theorem t343 : .code yX12_putsAside cX12_putsAside 2 none ∈ zTg := zin_of (tK14 _ (List.mem_of_getElem? (i := 7) (show tL14[7]? = some (1785, .code yX12_putsAside cX12_putsAside 2 none) from rfl)))
theorem t344 : .code yX12_comesBack cX12_comesBack 2 none ∈ zTg := zin_of (tK14 _ (List.mem_of_getElem? (i := 8) (show tL14[8]? = some (1932, .code yX12_comesBack cX12_comesBack 2 none) from rfl)))
theorem t345 : .code yX12_coast cX12_coast 2 (some .int) ∈ zTg := zin_of (tK14 _ (List.mem_of_getElem? (i := 9) (show tL14[9]? = some (1781, .code yX12_coast cX12_coast 2 (some .int)) from rfl)))
theorem t346 : .code yX12_part cX12_part 2 (some .int) ∈ zTg := zin_of (tK14 _ (List.mem_of_getElem? (i := 10) (show tL14[10]? = some (1859, .code yX12_part cX12_part 2 (some .int)) from rfl)))
theorem t347 : .code yX12_sum cX12_sum 2 (some .int) ∈ zTg := zin_of (tK14 _ (List.mem_of_getElem? (i := 11) (show tL14[11]? = some (1855, .code yX12_sum cX12_sum 2 (some .int)) from rfl)))
theorem t348 : .code yX12_plain cX12_plain 4 (some .boolean) ∈ zTg := zin_of (tK14 _ (List.mem_of_getElem? (i := 12) (show tL14[12]? = some (1848, .code yX12_plain cX12_plain 4 (some .boolean)) from rfl)))
theorem t349 : .code yX12_atom cX12_atom 4 (some .boolean) ∈ zTg := zin_of (tK14 _ (List.mem_of_getElem? (i := 13) (show tL14[13]? = some (1839, .code yX12_atom cX12_atom 4 (some .boolean)) from rfl)))
theorem t350 : .code yX12_every cX12_every 3 (some .boolean) ∈ zTg := zin_of (tK14 _ (List.mem_of_getElem? (i := 14) (show tL14[14]? = some (1835, .code yX12_every cX12_every 3 (some .boolean)) from rfl)))
theorem t351 : .code yX12_some cX12_some 3 (some .boolean) ∈ zTg := zin_of (tK14 _ (List.mem_of_getElem? (i := 15) (show tL14[15]? = some (1831, .code yX12_some cX12_some 3 (some .boolean)) from rfl)))
theorem t352 : .code yX12_lawLine cX12_lawLine 4 none ∈ zTg := zin_of (tK14 _ (List.mem_of_getElem? (i := 16) (show tL14[16]? = some (1809, .code yX12_lawLine cX12_lawLine 4 none) from rfl)))
theorem t353 : .code yX12_law cX12_law 3 (some .int) ∈ zTg := zin_of (tK14 _ (List.mem_of_getElem? (i := 17) (show tL14[17]? = some (1936, .code yX12_law cX12_law 3 (some .int)) from rfl)))
theorem t354 : .code yX12_fault cX12_fault 1 (some .int) ∈ zTg := zin_of (tK14 _ (List.mem_of_getElem? (i := 18) (show tL14[18]? = some (1940, .code yX12_fault cX12_fault 1 (some .int)) from rfl)))
theorem t355 : .code yX12_asks cX12_asks 7 none ∈ zTg := zin_of (tK14 _ (List.mem_of_getElem? (i := 19) (show tL14[19]? = some (2009, .code yX12_asks cX12_asks 7 none) from rfl)))
theorem t356 : .code yX12_feltBy cX12_feltBy 6 (some .int) ∈ zTg := zin_of (tK14 _ (List.mem_of_getElem? (i := 20) (show tL14[20]? = some (2005, .code yX12_feltBy cX12_feltBy 6 (some .int)) from rfl)))
theorem t357 : .code yX12_lapsesIn cX12_lapsesIn 4 (some .boolean) ∈ zTg := zin_of (tK14 _ (List.mem_of_getElem? (i := 21) (show tL14[21]? = some (2027, .code yX12_lapsesIn cX12_lapsesIn 4 (some .boolean)) from rfl)))
theorem t358 : .code yX12_goesIn cX12_goesIn 8 (some .int) ∈ zTg := zin_of (tK14 _ (List.mem_of_getElem? (i := 22) (show tL14[22]? = some (2023, .code yX12_goesIn cX12_goesIn 8 (some .int)) from rfl)))
theorem t359 : .code yX12_goesWet cX12_goesWet 2 (some .boolean) ∈ zTg := zin_of (tK14 _ (List.mem_of_getElem? (i := 23) (show tL14[23]? = some (2164, .code yX12_goesWet cX12_goesWet 2 (some .boolean)) from rfl)))
def tL15 : List (Nat × Cond) := [(2058, .code yX12_draw cX12_draw 2 (some .int)), (2067, .code yX12_logs cX12_logs 3 none), (2050, .code yX12_passes cX12_passes 6 (some .boolean)), (2046, .code yX12_passesOn cX12_passesOn 4 (some .int)), (1967, .code yX12_seatsOut cX12_seatsOut 3 (some .int)), (1956, .code yX12_isFor cX12_isFor 4 (some .int)), (1944, .code yX12_member cX12_member 3 (some .int)), (1971, .code yX12_motion cX12_motion 3 (some .int)), (1979, .code yX12_follows cX12_follows 3 (some .int)), (1990, .code yX12_exposed cX12_exposed 2 (some .int)), (1994, .code yX12_paper cX12_paper 2 (some .int)), (2001, .code yX12_felt cX12_felt 4 (some .int)), (2019, .code yX12_goes cX12_goes 4 (some .int)), (2042, .code yX12_remembers cX12_remembers 2 none), (2038, .code yX12_hours cX12_hours 2 (some .int)), (2075, .code yX12_sets cX12_sets 4 (some .int)), (2071, .code yX12_table cX12_table 5 (some .int)), (2079, .code yX12_clear cX12_clear 2 (some .int)), (2087, .code yX12_changes cX12_changes 4 (some .boolean)), (2083, .code yX12_hat cX12_hat 3 (some .boolean)), (2091, .code yX12_out cX12_out 3 (some .boolean)), (2095, .code yX12_walk cX12_walk 3 (some .int)), (2099, .code yX12_mind cX12_mind 4 (some .boolean)), (2103, .code yX12_seat cX12_seat 3 (some .int))]
set_option maxRecDepth 100000 in
theorem tK15 : ∀ q ∈ tL15, lw_tbl[q.1]? = some q.2 ∧ goodWord q.2 = true := by decide +kernel
theorem t360 : .code yX12_draw cX12_draw 2 (some .int) ∈ zTg := zin_of (tK15 _ (List.mem_of_getElem? (i := 0) (show tL15[0]? = some (2058, .code yX12_draw cX12_draw 2 (some .int)) from rfl)))
theorem t361 : .code yX12_logs cX12_logs 3 none ∈ zTg := zin_of (tK15 _ (List.mem_of_getElem? (i := 1) (show tL15[1]? = some (2067, .code yX12_logs cX12_logs 3 none) from rfl)))
theorem t362 : .code yX12_passes cX12_passes 6 (some .boolean) ∈ zTg := zin_of (tK15 _ (List.mem_of_getElem? (i := 2) (show tL15[2]? = some (2050, .code yX12_passes cX12_passes 6 (some .boolean)) from rfl)))
theorem t363 : .code yX12_passesOn cX12_passesOn 4 (some .int) ∈ zTg := zin_of (tK15 _ (List.mem_of_getElem? (i := 3) (show tL15[3]? = some (2046, .code yX12_passesOn cX12_passesOn 4 (some .int)) from rfl)))
theorem t364 : .code yX12_seatsOut cX12_seatsOut 3 (some .int) ∈ zTg := zin_of (tK15 _ (List.mem_of_getElem? (i := 4) (show tL15[4]? = some (1967, .code yX12_seatsOut cX12_seatsOut 3 (some .int)) from rfl)))
theorem t365 : .code yX12_isFor cX12_isFor 4 (some .int) ∈ zTg := zin_of (tK15 _ (List.mem_of_getElem? (i := 5) (show tL15[5]? = some (1956, .code yX12_isFor cX12_isFor 4 (some .int)) from rfl)))
theorem t366 : .code yX12_member cX12_member 3 (some .int) ∈ zTg := zin_of (tK15 _ (List.mem_of_getElem? (i := 6) (show tL15[6]? = some (1944, .code yX12_member cX12_member 3 (some .int)) from rfl)))
theorem t367 : .code yX12_motion cX12_motion 3 (some .int) ∈ zTg := zin_of (tK15 _ (List.mem_of_getElem? (i := 7) (show tL15[7]? = some (1971, .code yX12_motion cX12_motion 3 (some .int)) from rfl)))
theorem t368 : .code yX12_follows cX12_follows 3 (some .int) ∈ zTg := zin_of (tK15 _ (List.mem_of_getElem? (i := 8) (show tL15[8]? = some (1979, .code yX12_follows cX12_follows 3 (some .int)) from rfl)))
theorem t369 : .code yX12_exposed cX12_exposed 2 (some .int) ∈ zTg := zin_of (tK15 _ (List.mem_of_getElem? (i := 9) (show tL15[9]? = some (1990, .code yX12_exposed cX12_exposed 2 (some .int)) from rfl)))
theorem t370 : .code yX12_paper cX12_paper 2 (some .int) ∈ zTg := zin_of (tK15 _ (List.mem_of_getElem? (i := 10) (show tL15[10]? = some (1994, .code yX12_paper cX12_paper 2 (some .int)) from rfl)))
theorem t371 : .code yX12_felt cX12_felt 4 (some .int) ∈ zTg := zin_of (tK15 _ (List.mem_of_getElem? (i := 11) (show tL15[11]? = some (2001, .code yX12_felt cX12_felt 4 (some .int)) from rfl)))
theorem t372 : .code yX12_goes cX12_goes 4 (some .int) ∈ zTg := zin_of (tK15 _ (List.mem_of_getElem? (i := 12) (show tL15[12]? = some (2019, .code yX12_goes cX12_goes 4 (some .int)) from rfl)))
theorem t373 : .code yX12_remembers cX12_remembers 2 none ∈ zTg := zin_of (tK15 _ (List.mem_of_getElem? (i := 13) (show tL15[13]? = some (2042, .code yX12_remembers cX12_remembers 2 none) from rfl)))
theorem t374 : .code yX12_hours cX12_hours 2 (some .int) ∈ zTg := zin_of (tK15 _ (List.mem_of_getElem? (i := 14) (show tL15[14]? = some (2038, .code yX12_hours cX12_hours 2 (some .int)) from rfl)))
theorem t375 : .code yX12_sets cX12_sets 4 (some .int) ∈ zTg := zin_of (tK15 _ (List.mem_of_getElem? (i := 15) (show tL15[15]? = some (2075, .code yX12_sets cX12_sets 4 (some .int)) from rfl)))
theorem t376 : .code yX12_table cX12_table 5 (some .int) ∈ zTg := zin_of (tK15 _ (List.mem_of_getElem? (i := 16) (show tL15[16]? = some (2071, .code yX12_table cX12_table 5 (some .int)) from rfl)))
theorem t377 : .code yX12_clear cX12_clear 2 (some .int) ∈ zTg := zin_of (tK15 _ (List.mem_of_getElem? (i := 17) (show tL15[17]? = some (2079, .code yX12_clear cX12_clear 2 (some .int)) from rfl)))
theorem t378 : .code yX12_changes cX12_changes 4 (some .boolean) ∈ zTg := zin_of (tK15 _ (List.mem_of_getElem? (i := 18) (show tL15[18]? = some (2087, .code yX12_changes cX12_changes 4 (some .boolean)) from rfl)))
theorem t379 : .code yX12_hat cX12_hat 3 (some .boolean) ∈ zTg := zin_of (tK15 _ (List.mem_of_getElem? (i := 19) (show tL15[19]? = some (2083, .code yX12_hat cX12_hat 3 (some .boolean)) from rfl)))
theorem t380 : .code yX12_out cX12_out 3 (some .boolean) ∈ zTg := zin_of (tK15 _ (List.mem_of_getElem? (i := 20) (show tL15[20]? = some (2091, .code yX12_out cX12_out 3 (some .boolean)) from rfl)))
theorem t381 : .code yX12_walk cX12_walk 3 (some .int) ∈ zTg := zin_of (tK15 _ (List.mem_of_getElem? (i := 21) (show tL15[21]? = some (2095, .code yX12_walk cX12_walk 3 (some .int)) from rfl)))
theorem t382 : .code yX12_mind cX12_mind 4 (some .boolean) ∈ zTg := zin_of (tK15 _ (List.mem_of_getElem? (i := 22) (show tL15[22]? = some (2099, .code yX12_mind cX12_mind 4 (some .boolean)) from rfl)))
theorem t383 : .code yX12_seat cX12_seat 3 (some .int) ∈ zTg := zin_of (tK15 _ (List.mem_of_getElem? (i := 23) (show tL15[23]? = some (2103, .code yX12_seat cX12_seat 3 (some .int)) from rfl)))
def tL16 : List (Nat × Cond) := [(2107, .code yX12_renew cX12_renew 2 (some .int)), (2123, .code yX12_chancesGo cX12_chancesGo 6 none), (2119, .code yX12_chancesBegin cX12_chancesBegin 2 none), (2115, .code yX12_chancesIn cX12_chancesIn 3 none), (2111, .code yX12_chance cX12_chance 3 (some .int)), (2131, .code yX12_carriesIn cX12_carriesIn 5 (some .int)), (2127, .code yX12_carries cX12_carries 3 (some .int)), (2135, .code yX12_soonest cX12_soonest 4 (some .int)), (2139, .code yX12_when cX12_when 6 (some .int)), (2143, .code yX12_worst cX12_worst 6 (some .int)), (2156, .code yX12_bringsIn cX12_bringsIn 3 (some .int)), (2152, .code yX12_papers cX12_papers 5 none), (2148, .code yX12_best cX12_best 6 (some .int)), (2168, .code yX12_worthOf cX12_worthOf 4 (some .int)), (2160, .code yX12_shower cX12_shower 8 (some .int)), (2176, .code yX12_isHastier cX12_isHastier 4 (some .boolean)), (2172, .code yX12_haste cX12_haste 5 (some .int)), (2200, .code yX12_isWet cX12_isWet 3 (some .boolean)), (2188, .code yX12_areCuffs cX12_areCuffs 4 (some .boolean)), (2196, .code yX12_fitsCuffs cX12_fitsCuffs 6 (some .boolean)), (2192, .code yX12_rows cX12_rows 6 none), (2208, .code yX12_waysOfAll cX12_waysOfAll 4 (some .long)), (2184, .code yX12_heard cX12_heard 2 (some .boolean)), (2204, .code yX12_skiesNow cX12_skiesNow 3 (some .int))]
set_option maxRecDepth 100000 in
theorem tK16 : ∀ q ∈ tL16, lw_tbl[q.1]? = some q.2 ∧ goodWord q.2 = true := by decide +kernel
theorem t384 : .code yX12_renew cX12_renew 2 (some .int) ∈ zTg := zin_of (tK16 _ (List.mem_of_getElem? (i := 0) (show tL16[0]? = some (2107, .code yX12_renew cX12_renew 2 (some .int)) from rfl)))
theorem t385 : .code yX12_chancesGo cX12_chancesGo 6 none ∈ zTg := zin_of (tK16 _ (List.mem_of_getElem? (i := 1) (show tL16[1]? = some (2123, .code yX12_chancesGo cX12_chancesGo 6 none) from rfl)))
theorem t386 : .code yX12_chancesBegin cX12_chancesBegin 2 none ∈ zTg := zin_of (tK16 _ (List.mem_of_getElem? (i := 2) (show tL16[2]? = some (2119, .code yX12_chancesBegin cX12_chancesBegin 2 none) from rfl)))
theorem t387 : .code yX12_chancesIn cX12_chancesIn 3 none ∈ zTg := zin_of (tK16 _ (List.mem_of_getElem? (i := 3) (show tL16[3]? = some (2115, .code yX12_chancesIn cX12_chancesIn 3 none) from rfl)))
theorem t388 : .code yX12_chance cX12_chance 3 (some .int) ∈ zTg := zin_of (tK16 _ (List.mem_of_getElem? (i := 4) (show tL16[4]? = some (2111, .code yX12_chance cX12_chance 3 (some .int)) from rfl)))
theorem t389 : .code yX12_carriesIn cX12_carriesIn 5 (some .int) ∈ zTg := zin_of (tK16 _ (List.mem_of_getElem? (i := 5) (show tL16[5]? = some (2131, .code yX12_carriesIn cX12_carriesIn 5 (some .int)) from rfl)))
theorem t390 : .code yX12_carries cX12_carries 3 (some .int) ∈ zTg := zin_of (tK16 _ (List.mem_of_getElem? (i := 6) (show tL16[6]? = some (2127, .code yX12_carries cX12_carries 3 (some .int)) from rfl)))
theorem t391 : .code yX12_soonest cX12_soonest 4 (some .int) ∈ zTg := zin_of (tK16 _ (List.mem_of_getElem? (i := 7) (show tL16[7]? = some (2135, .code yX12_soonest cX12_soonest 4 (some .int)) from rfl)))
theorem t392 : .code yX12_when cX12_when 6 (some .int) ∈ zTg := zin_of (tK16 _ (List.mem_of_getElem? (i := 8) (show tL16[8]? = some (2139, .code yX12_when cX12_when 6 (some .int)) from rfl)))
theorem t393 : .code yX12_worst cX12_worst 6 (some .int) ∈ zTg := zin_of (tK16 _ (List.mem_of_getElem? (i := 9) (show tL16[9]? = some (2143, .code yX12_worst cX12_worst 6 (some .int)) from rfl)))
theorem t394 : .code yX12_bringsIn cX12_bringsIn 3 (some .int) ∈ zTg := zin_of (tK16 _ (List.mem_of_getElem? (i := 10) (show tL16[10]? = some (2156, .code yX12_bringsIn cX12_bringsIn 3 (some .int)) from rfl)))
theorem t395 : .code yX12_papers cX12_papers 5 none ∈ zTg := zin_of (tK16 _ (List.mem_of_getElem? (i := 11) (show tL16[11]? = some (2152, .code yX12_papers cX12_papers 5 none) from rfl)))
theorem t396 : .code yX12_best cX12_best 6 (some .int) ∈ zTg := zin_of (tK16 _ (List.mem_of_getElem? (i := 12) (show tL16[12]? = some (2148, .code yX12_best cX12_best 6 (some .int)) from rfl)))
theorem t397 : .code yX12_worthOf cX12_worthOf 4 (some .int) ∈ zTg := zin_of (tK16 _ (List.mem_of_getElem? (i := 13) (show tL16[13]? = some (2168, .code yX12_worthOf cX12_worthOf 4 (some .int)) from rfl)))
theorem t398 : .code yX12_shower cX12_shower 8 (some .int) ∈ zTg := zin_of (tK16 _ (List.mem_of_getElem? (i := 14) (show tL16[14]? = some (2160, .code yX12_shower cX12_shower 8 (some .int)) from rfl)))
theorem t399 : .code yX12_isHastier cX12_isHastier 4 (some .boolean) ∈ zTg := zin_of (tK16 _ (List.mem_of_getElem? (i := 15) (show tL16[15]? = some (2176, .code yX12_isHastier cX12_isHastier 4 (some .boolean)) from rfl)))
theorem t400 : .code yX12_haste cX12_haste 5 (some .int) ∈ zTg := zin_of (tK16 _ (List.mem_of_getElem? (i := 16) (show tL16[16]? = some (2172, .code yX12_haste cX12_haste 5 (some .int)) from rfl)))
theorem t401 : .code yX12_isWet cX12_isWet 3 (some .boolean) ∈ zTg := zin_of (tK16 _ (List.mem_of_getElem? (i := 17) (show tL16[17]? = some (2200, .code yX12_isWet cX12_isWet 3 (some .boolean)) from rfl)))
theorem t402 : .code yX12_areCuffs cX12_areCuffs 4 (some .boolean) ∈ zTg := zin_of (tK16 _ (List.mem_of_getElem? (i := 18) (show tL16[18]? = some (2188, .code yX12_areCuffs cX12_areCuffs 4 (some .boolean)) from rfl)))
theorem t403 : .code yX12_fitsCuffs cX12_fitsCuffs 6 (some .boolean) ∈ zTg := zin_of (tK16 _ (List.mem_of_getElem? (i := 19) (show tL16[19]? = some (2196, .code yX12_fitsCuffs cX12_fitsCuffs 6 (some .boolean)) from rfl)))
theorem t404 : .code yX12_rows cX12_rows 6 none ∈ zTg := zin_of (tK16 _ (List.mem_of_getElem? (i := 20) (show tL16[20]? = some (2192, .code yX12_rows cX12_rows 6 none) from rfl)))
theorem t405 : .code yX12_waysOfAll cX12_waysOfAll 4 (some .long) ∈ zTg := zin_of (tK16 _ (List.mem_of_getElem? (i := 21) (show tL16[21]? = some (2208, .code yX12_waysOfAll cX12_waysOfAll 4 (some .long)) from rfl)))
theorem t406 : .code yX12_heard cX12_heard 2 (some .boolean) ∈ zTg := zin_of (tK16 _ (List.mem_of_getElem? (i := 22) (show tL16[22]? = some (2184, .code yX12_heard cX12_heard 2 (some .boolean)) from rfl)))
theorem t407 : .code yX12_skiesNow cX12_skiesNow 3 (some .int) ∈ zTg := zin_of (tK16 _ (List.mem_of_getElem? (i := 23) (show tL16[23]? = some (2204, .code yX12_skiesNow cX12_skiesNow 3 (some .int)) from rfl)))
def tL17 : List (Nat × Cond) := [(2180, .code yX12_cuffs cX12_cuffs 2 (some .int)), (2213, .code yX12_likely cX12_likely 3 (some .int)), (2217, .code yX12_ago cX12_ago 7 (some .int)), (2221, .code yX12_ask cX12_ask 7 (some .int)), (2229, .code yX12_seenBy cX12_seenBy 5 (some .int)), (2225, .code yX12_windows cX12_windows 4 (some .int)), (2237, .code yX12_postsOf cX12_postsOf 6 none), (2233, .code yX12_posts cX12_posts 7 (some .int)), (2253, .code yX12_voters cX12_voters 1 (some .int)), (2249, .code yX12_votesOf cX12_votesOf 4 (some .int)), (2245, .code yX12_winsBy cX12_winsBy 2 (some .boolean)), (2241, .code yX12_wins cX12_wins 2 (some .boolean)), (2269, .code yX12_swingsBy cX12_swingsBy 3 (some .boolean)), (2265, .code yX12_swingsOf cX12_swingsOf 4 (some .int)), (2261, .code yX12_isVoter cX12_isVoter 2 none), (2257, .code yX12_swings cX12_swings 2 (some .int)), (2273, .code yX12_power cX12_power 4 (some .int)), (2281, .code yX12_isLeast cX12_isLeast 4 (some .boolean)), (2277, .code yX12_minimal cX12_minimal 3 (some .int)), (2285, .code yX12_leader cX12_leader 5 (some .int)), (2293, .code yX12_goesWetBy cX12_goesWetBy 5 (some .boolean)), (2289, .code yX12_minds cX12_minds 4 (some .int)), (2301, .code yX12_parts cX12_parts 4 (some .boolean)), (2297, .code yX12_bargain cX12_bargain 6 (some .int))]
set_option maxRecDepth 100000 in
theorem tK17 : ∀ q ∈ tL17, lw_tbl[q.1]? = some q.2 ∧ goodWord q.2 = true := by decide +kernel
theorem t408 : .code yX12_cuffs cX12_cuffs 2 (some .int) ∈ zTg := zin_of (tK17 _ (List.mem_of_getElem? (i := 0) (show tL17[0]? = some (2180, .code yX12_cuffs cX12_cuffs 2 (some .int)) from rfl)))
theorem t409 : .code yX12_likely cX12_likely 3 (some .int) ∈ zTg := zin_of (tK17 _ (List.mem_of_getElem? (i := 1) (show tL17[1]? = some (2213, .code yX12_likely cX12_likely 3 (some .int)) from rfl)))
theorem t410 : .code yX12_ago cX12_ago 7 (some .int) ∈ zTg := zin_of (tK17 _ (List.mem_of_getElem? (i := 2) (show tL17[2]? = some (2217, .code yX12_ago cX12_ago 7 (some .int)) from rfl)))
theorem t411 : .code yX12_ask cX12_ask 7 (some .int) ∈ zTg := zin_of (tK17 _ (List.mem_of_getElem? (i := 3) (show tL17[3]? = some (2221, .code yX12_ask cX12_ask 7 (some .int)) from rfl)))
theorem t412 : .code yX12_seenBy cX12_seenBy 5 (some .int) ∈ zTg := zin_of (tK17 _ (List.mem_of_getElem? (i := 4) (show tL17[4]? = some (2229, .code yX12_seenBy cX12_seenBy 5 (some .int)) from rfl)))
theorem t413 : .code yX12_windows cX12_windows 4 (some .int) ∈ zTg := zin_of (tK17 _ (List.mem_of_getElem? (i := 5) (show tL17[5]? = some (2225, .code yX12_windows cX12_windows 4 (some .int)) from rfl)))
theorem t414 : .code yX12_postsOf cX12_postsOf 6 none ∈ zTg := zin_of (tK17 _ (List.mem_of_getElem? (i := 6) (show tL17[6]? = some (2237, .code yX12_postsOf cX12_postsOf 6 none) from rfl)))
theorem t415 : .code yX12_posts cX12_posts 7 (some .int) ∈ zTg := zin_of (tK17 _ (List.mem_of_getElem? (i := 7) (show tL17[7]? = some (2233, .code yX12_posts cX12_posts 7 (some .int)) from rfl)))
theorem t416 : .code yX12_voters cX12_voters 1 (some .int) ∈ zTg := zin_of (tK17 _ (List.mem_of_getElem? (i := 8) (show tL17[8]? = some (2253, .code yX12_voters cX12_voters 1 (some .int)) from rfl)))
theorem t417 : .code yX12_votesOf cX12_votesOf 4 (some .int) ∈ zTg := zin_of (tK17 _ (List.mem_of_getElem? (i := 9) (show tL17[9]? = some (2249, .code yX12_votesOf cX12_votesOf 4 (some .int)) from rfl)))
theorem t418 : .code yX12_winsBy cX12_winsBy 2 (some .boolean) ∈ zTg := zin_of (tK17 _ (List.mem_of_getElem? (i := 10) (show tL17[10]? = some (2245, .code yX12_winsBy cX12_winsBy 2 (some .boolean)) from rfl)))
theorem t419 : .code yX12_wins cX12_wins 2 (some .boolean) ∈ zTg := zin_of (tK17 _ (List.mem_of_getElem? (i := 11) (show tL17[11]? = some (2241, .code yX12_wins cX12_wins 2 (some .boolean)) from rfl)))
theorem t420 : .code yX12_swingsBy cX12_swingsBy 3 (some .boolean) ∈ zTg := zin_of (tK17 _ (List.mem_of_getElem? (i := 12) (show tL17[12]? = some (2269, .code yX12_swingsBy cX12_swingsBy 3 (some .boolean)) from rfl)))
theorem t421 : .code yX12_swingsOf cX12_swingsOf 4 (some .int) ∈ zTg := zin_of (tK17 _ (List.mem_of_getElem? (i := 13) (show tL17[13]? = some (2265, .code yX12_swingsOf cX12_swingsOf 4 (some .int)) from rfl)))
theorem t422 : .code yX12_isVoter cX12_isVoter 2 none ∈ zTg := zin_of (tK17 _ (List.mem_of_getElem? (i := 14) (show tL17[14]? = some (2261, .code yX12_isVoter cX12_isVoter 2 none) from rfl)))
theorem t423 : .code yX12_swings cX12_swings 2 (some .int) ∈ zTg := zin_of (tK17 _ (List.mem_of_getElem? (i := 15) (show tL17[15]? = some (2257, .code yX12_swings cX12_swings 2 (some .int)) from rfl)))
theorem t424 : .code yX12_power cX12_power 4 (some .int) ∈ zTg := zin_of (tK17 _ (List.mem_of_getElem? (i := 16) (show tL17[16]? = some (2273, .code yX12_power cX12_power 4 (some .int)) from rfl)))
theorem t425 : .code yX12_isLeast cX12_isLeast 4 (some .boolean) ∈ zTg := zin_of (tK17 _ (List.mem_of_getElem? (i := 17) (show tL17[17]? = some (2281, .code yX12_isLeast cX12_isLeast 4 (some .boolean)) from rfl)))
theorem t426 : .code yX12_minimal cX12_minimal 3 (some .int) ∈ zTg := zin_of (tK17 _ (List.mem_of_getElem? (i := 18) (show tL17[18]? = some (2277, .code yX12_minimal cX12_minimal 3 (some .int)) from rfl)))
theorem t427 : .code yX12_leader cX12_leader 5 (some .int) ∈ zTg := zin_of (tK17 _ (List.mem_of_getElem? (i := 19) (show tL17[19]? = some (2285, .code yX12_leader cX12_leader 5 (some .int)) from rfl)))
theorem t428 : .code yX12_goesWetBy cX12_goesWetBy 5 (some .boolean) ∈ zTg := zin_of (tK17 _ (List.mem_of_getElem? (i := 20) (show tL17[20]? = some (2293, .code yX12_goesWetBy cX12_goesWetBy 5 (some .boolean)) from rfl)))
theorem t429 : .code yX12_minds cX12_minds 4 (some .int) ∈ zTg := zin_of (tK17 _ (List.mem_of_getElem? (i := 21) (show tL17[21]? = some (2289, .code yX12_minds cX12_minds 4 (some .int)) from rfl)))
theorem t430 : .code yX12_parts cX12_parts 4 (some .boolean) ∈ zTg := zin_of (tK17 _ (List.mem_of_getElem? (i := 22) (show tL17[22]? = some (2301, .code yX12_parts cX12_parts 4 (some .boolean)) from rfl)))
theorem t431 : .code yX12_bargain cX12_bargain 6 (some .int) ∈ zTg := zin_of (tK17 _ (List.mem_of_getElem? (i := 23) (show tL17[23]? = some (2297, .code yX12_bargain cX12_bargain 6 (some .int)) from rfl)))
def tL18 : List (Nat × Cond) := [(2309, .code yX12_likeOf cX12_likeOf 5 (some .int)), (2305, .code yX12_like cX12_like 3 (some .int)), (2313, .code yX12_foes cX12_foes 5 (some .int)), (2321, .code yX12_dryOf cX12_dryOf 3 (some .int)), (2317, .code yX12_dry cX12_dry 2 (some .int)), (2325, .code yX12_drought cX12_drought 4 (some .int)), (2329, .code yX12_quorate cX12_quorate 1 (some .boolean)), (2333, .code yX12_enough cX12_enough 2 (some .int)), (2345, .code yX12_movedHas cX12_movedHas 6 (some .int)), (2341, .code yX12_moverHas cX12_moverHas 4 (some .int)), (2349, .code yX12_othersHave cX12_othersHave 4 (some .int)), (2337, .code yX12_rests cX12_rests 6 (some .int)), (2353, .code yX12_tabled cX12_tabled 3 (some .int)), (2357, .code yX12_soaked cX12_soaked 3 (some .int)), (2361, .code yX12_twins cX12_twins 4 (some .int)), (2365, .code yX12_richest cX12_richest 3 (some .int)), (2369, .code yX12_trial cX12_trial 5 (some .int)), (2377, .code yX12_span cX12_span 7 (some .int)), (2385, .code yX12_logged cX12_logged 3 (some .int)), (2381, .code yX12_led cX12_led 6 (some .int)), (2389, .code yX12_log cX12_log 3 (some .int)), (2393, .code yX12_seed cX12_seed 3 (some .int)), (2397, .code yX12_undo cX12_undo 2 (some .boolean)), (2401, .code yX12_image cX12_image 2 none)]
set_option maxRecDepth 100000 in
theorem tK18 : ∀ q ∈ tL18, lw_tbl[q.1]? = some q.2 ∧ goodWord q.2 = true := by decide +kernel
theorem t432 : .code yX12_likeOf cX12_likeOf 5 (some .int) ∈ zTg := zin_of (tK18 _ (List.mem_of_getElem? (i := 0) (show tL18[0]? = some (2309, .code yX12_likeOf cX12_likeOf 5 (some .int)) from rfl)))
theorem t433 : .code yX12_like cX12_like 3 (some .int) ∈ zTg := zin_of (tK18 _ (List.mem_of_getElem? (i := 1) (show tL18[1]? = some (2305, .code yX12_like cX12_like 3 (some .int)) from rfl)))
theorem t434 : .code yX12_foes cX12_foes 5 (some .int) ∈ zTg := zin_of (tK18 _ (List.mem_of_getElem? (i := 2) (show tL18[2]? = some (2313, .code yX12_foes cX12_foes 5 (some .int)) from rfl)))
theorem t435 : .code yX12_dryOf cX12_dryOf 3 (some .int) ∈ zTg := zin_of (tK18 _ (List.mem_of_getElem? (i := 3) (show tL18[3]? = some (2321, .code yX12_dryOf cX12_dryOf 3 (some .int)) from rfl)))
theorem t436 : .code yX12_dry cX12_dry 2 (some .int) ∈ zTg := zin_of (tK18 _ (List.mem_of_getElem? (i := 4) (show tL18[4]? = some (2317, .code yX12_dry cX12_dry 2 (some .int)) from rfl)))
theorem t437 : .code yX12_drought cX12_drought 4 (some .int) ∈ zTg := zin_of (tK18 _ (List.mem_of_getElem? (i := 5) (show tL18[5]? = some (2325, .code yX12_drought cX12_drought 4 (some .int)) from rfl)))
theorem t438 : .code yX12_quorate cX12_quorate 1 (some .boolean) ∈ zTg := zin_of (tK18 _ (List.mem_of_getElem? (i := 6) (show tL18[6]? = some (2329, .code yX12_quorate cX12_quorate 1 (some .boolean)) from rfl)))
theorem t439 : .code yX12_enough cX12_enough 2 (some .int) ∈ zTg := zin_of (tK18 _ (List.mem_of_getElem? (i := 7) (show tL18[7]? = some (2333, .code yX12_enough cX12_enough 2 (some .int)) from rfl)))
theorem t440 : .code yX12_movedHas cX12_movedHas 6 (some .int) ∈ zTg := zin_of (tK18 _ (List.mem_of_getElem? (i := 8) (show tL18[8]? = some (2345, .code yX12_movedHas cX12_movedHas 6 (some .int)) from rfl)))
theorem t441 : .code yX12_moverHas cX12_moverHas 4 (some .int) ∈ zTg := zin_of (tK18 _ (List.mem_of_getElem? (i := 9) (show tL18[9]? = some (2341, .code yX12_moverHas cX12_moverHas 4 (some .int)) from rfl)))
theorem t442 : .code yX12_othersHave cX12_othersHave 4 (some .int) ∈ zTg := zin_of (tK18 _ (List.mem_of_getElem? (i := 10) (show tL18[10]? = some (2349, .code yX12_othersHave cX12_othersHave 4 (some .int)) from rfl)))
theorem t443 : .code yX12_rests cX12_rests 6 (some .int) ∈ zTg := zin_of (tK18 _ (List.mem_of_getElem? (i := 11) (show tL18[11]? = some (2337, .code yX12_rests cX12_rests 6 (some .int)) from rfl)))
theorem t444 : .code yX12_tabled cX12_tabled 3 (some .int) ∈ zTg := zin_of (tK18 _ (List.mem_of_getElem? (i := 12) (show tL18[12]? = some (2353, .code yX12_tabled cX12_tabled 3 (some .int)) from rfl)))
theorem t445 : .code yX12_soaked cX12_soaked 3 (some .int) ∈ zTg := zin_of (tK18 _ (List.mem_of_getElem? (i := 13) (show tL18[13]? = some (2357, .code yX12_soaked cX12_soaked 3 (some .int)) from rfl)))
theorem t446 : .code yX12_twins cX12_twins 4 (some .int) ∈ zTg := zin_of (tK18 _ (List.mem_of_getElem? (i := 14) (show tL18[14]? = some (2361, .code yX12_twins cX12_twins 4 (some .int)) from rfl)))
theorem t447 : .code yX12_richest cX12_richest 3 (some .int) ∈ zTg := zin_of (tK18 _ (List.mem_of_getElem? (i := 15) (show tL18[15]? = some (2365, .code yX12_richest cX12_richest 3 (some .int)) from rfl)))
theorem t448 : .code yX12_trial cX12_trial 5 (some .int) ∈ zTg := zin_of (tK18 _ (List.mem_of_getElem? (i := 16) (show tL18[16]? = some (2369, .code yX12_trial cX12_trial 5 (some .int)) from rfl)))
theorem t449 : .code yX12_span cX12_span 7 (some .int) ∈ zTg := zin_of (tK18 _ (List.mem_of_getElem? (i := 17) (show tL18[17]? = some (2377, .code yX12_span cX12_span 7 (some .int)) from rfl)))
theorem t450 : .code yX12_logged cX12_logged 3 (some .int) ∈ zTg := zin_of (tK18 _ (List.mem_of_getElem? (i := 18) (show tL18[18]? = some (2385, .code yX12_logged cX12_logged 3 (some .int)) from rfl)))
theorem t451 : .code yX12_led cX12_led 6 (some .int) ∈ zTg := zin_of (tK18 _ (List.mem_of_getElem? (i := 19) (show tL18[19]? = some (2381, .code yX12_led cX12_led 6 (some .int)) from rfl)))
theorem t452 : .code yX12_log cX12_log 3 (some .int) ∈ zTg := zin_of (tK18 _ (List.mem_of_getElem? (i := 20) (show tL18[20]? = some (2389, .code yX12_log cX12_log 3 (some .int)) from rfl)))
theorem t453 : .code yX12_seed cX12_seed 3 (some .int) ∈ zTg := zin_of (tK18 _ (List.mem_of_getElem? (i := 21) (show tL18[21]? = some (2393, .code yX12_seed cX12_seed 3 (some .int)) from rfl)))
theorem t454 : .code yX12_undo cX12_undo 2 (some .boolean) ∈ zTg := zin_of (tK18 _ (List.mem_of_getElem? (i := 22) (show tL18[22]? = some (2397, .code yX12_undo cX12_undo 2 (some .boolean)) from rfl)))
theorem t455 : .code yX12_image cX12_image 2 none ∈ zTg := zin_of (tK18 _ (List.mem_of_getElem? (i := 23) (show tL18[23]? = some (2401, .code yX12_image cX12_image 2 none) from rfl)))
def tL19 : List (Nat × Cond) := [(2405, .code yX12_back cX12_back 2 (some .boolean)), (2409, .code yX12_count cX12_count 2 (some .int))]
set_option maxRecDepth 100000 in
theorem tK19 : ∀ q ∈ tL19, lw_tbl[q.1]? = some q.2 ∧ goodWord q.2 = true := by decide +kernel
theorem t456 : .code yX12_back cX12_back 2 (some .boolean) ∈ zTg := zin_of (tK19 _ (List.mem_of_getElem? (i := 0) (show tL19[0]? = some (2405, .code yX12_back cX12_back 2 (some .boolean)) from rfl)))
theorem t457 : .code yX12_count cX12_count 2 (some .int) ∈ zTg := zin_of (tK19 _ (List.mem_of_getElem? (i := 1) (show tL19[1]? = some (2409, .code yX12_count cX12_count 2 (some .int)) from rfl)))
theorem gR0 : ∀ q ∈ ([(KX12_init, 0), (KX12_thrown, 0), (KX12_isIn, 3), (KX12_lesser, 2), (KX12_greater, 2), (KX12_isOf, 2), (KX12_bits, 1), (KX12_of, 2), (KX12_ofMotion, 2), (KX12_isMember, 1), (KX12_isMotion, 1), (KX12_isSky, 1), (KX12_isHour, 1), (KX12_waits, 1), (KX12_weight, 2), (KX12_weights, 1)] : List (zK × Nat)), plainName q.1.1.cls = true ∧ (q.1.1.cls ≠ "java/lang/invoke/MethodHandle" ∧ q.1.1.cls ≠ "java/lang/invoke/VarHandle" ∧ (parseMethodDescriptor q.1.1.desc).map (fun d => d.parameters.length) = some q.2) ∧ q.1.2.2.1 ≤ 40 := by decide +kernel
theorem gX12_init : zGood KX12_init 0 := by
  obtain ⟨h1, h2, h3⟩ := gR0 (KX12_init, 0) (List.mem_of_getElem? (i := 0) rfl)
  exact ⟨h1, t302, h2, h3, t303⟩
theorem gX12_thrown : zGood KX12_thrown 0 := by
  obtain ⟨h1, h2, h3⟩ := gR0 (KX12_thrown, 0) (List.mem_of_getElem? (i := 1) rfl)
  exact ⟨h1, t304, h2, h3, t303⟩
theorem gX12_isIn : zGood KX12_isIn 3 := by
  obtain ⟨h1, h2, h3⟩ := gR0 (KX12_isIn, 3) (List.mem_of_getElem? (i := 2) rfl)
  exact ⟨h1, t305, h2, h3, t303⟩
theorem gX12_lesser : zGood KX12_lesser 2 := by
  obtain ⟨h1, h2, h3⟩ := gR0 (KX12_lesser, 2) (List.mem_of_getElem? (i := 3) rfl)
  exact ⟨h1, t306, h2, h3, t303⟩
theorem gX12_greater : zGood KX12_greater 2 := by
  obtain ⟨h1, h2, h3⟩ := gR0 (KX12_greater, 2) (List.mem_of_getElem? (i := 4) rfl)
  exact ⟨h1, t307, h2, h3, t303⟩
theorem gX12_isOf : zGood KX12_isOf 2 := by
  obtain ⟨h1, h2, h3⟩ := gR0 (KX12_isOf, 2) (List.mem_of_getElem? (i := 5) rfl)
  exact ⟨h1, t308, h2, h3, t303⟩
theorem gX12_bits : zGood KX12_bits 1 := by
  obtain ⟨h1, h2, h3⟩ := gR0 (KX12_bits, 1) (List.mem_of_getElem? (i := 6) rfl)
  exact ⟨h1, t309, h2, h3, t303⟩
theorem gX12_of : zGood KX12_of 2 := by
  obtain ⟨h1, h2, h3⟩ := gR0 (KX12_of, 2) (List.mem_of_getElem? (i := 7) rfl)
  exact ⟨h1, t310, h2, h3, t303⟩
theorem gX12_ofMotion : zGood KX12_ofMotion 2 := by
  obtain ⟨h1, h2, h3⟩ := gR0 (KX12_ofMotion, 2) (List.mem_of_getElem? (i := 8) rfl)
  exact ⟨h1, t311, h2, h3, t303⟩
theorem gX12_isMember : zGood KX12_isMember 1 := by
  obtain ⟨h1, h2, h3⟩ := gR0 (KX12_isMember, 1) (List.mem_of_getElem? (i := 9) rfl)
  exact ⟨h1, t312, h2, h3, t303⟩
theorem gX12_isMotion : zGood KX12_isMotion 1 := by
  obtain ⟨h1, h2, h3⟩ := gR0 (KX12_isMotion, 1) (List.mem_of_getElem? (i := 10) rfl)
  exact ⟨h1, t313, h2, h3, t303⟩
theorem gX12_isSky : zGood KX12_isSky 1 := by
  obtain ⟨h1, h2, h3⟩ := gR0 (KX12_isSky, 1) (List.mem_of_getElem? (i := 11) rfl)
  exact ⟨h1, t314, h2, h3, t303⟩
theorem gX12_isHour : zGood KX12_isHour 1 := by
  obtain ⟨h1, h2, h3⟩ := gR0 (KX12_isHour, 1) (List.mem_of_getElem? (i := 12) rfl)
  exact ⟨h1, t315, h2, h3, t303⟩
theorem gX12_waits : zGood KX12_waits 1 := by
  obtain ⟨h1, h2, h3⟩ := gR0 (KX12_waits, 1) (List.mem_of_getElem? (i := 13) rfl)
  exact ⟨h1, t316, h2, h3, t303⟩
theorem gX12_weight : zGood KX12_weight 2 := by
  obtain ⟨h1, h2, h3⟩ := gR0 (KX12_weight, 2) (List.mem_of_getElem? (i := 14) rfl)
  exact ⟨h1, t317, h2, h3, t303⟩
theorem gX12_weights : zGood KX12_weights 1 := by
  obtain ⟨h1, h2, h3⟩ := gR0 (KX12_weights, 1) (List.mem_of_getElem? (i := 15) rfl)
  exact ⟨h1, t318, h2, h3, t303⟩
theorem gR1 : ∀ q ∈ ([(KX12_outs, 0), (KX12_inState, 1), (KX12_standsIn, 1), (KX12_feed, 5), (KX12_end, 1), (KX12_letter, 1), (KX12_skip, 0), (KX12_isSign, 1), (KX12_has, 1), (KX12_wrong, 1), (KX12_here, 0), (KX12_figures, 2), (KX12_after, 3), (KX12_memberLine, 1), (KX12_row, 2), (KX12_motionLine, 1)] : List (zK × Nat)), plainName q.1.1.cls = true ∧ (q.1.1.cls ≠ "java/lang/invoke/MethodHandle" ∧ q.1.1.cls ≠ "java/lang/invoke/VarHandle" ∧ (parseMethodDescriptor q.1.1.desc).map (fun d => d.parameters.length) = some q.2) ∧ q.1.2.2.1 ≤ 40 := by decide +kernel
theorem gX12_outs : zGood KX12_outs 0 := by
  obtain ⟨h1, h2, h3⟩ := gR1 (KX12_outs, 0) (List.mem_of_getElem? (i := 0) rfl)
  exact ⟨h1, t319, h2, h3, t303⟩
theorem gX12_inState : zGood KX12_inState 1 := by
  obtain ⟨h1, h2, h3⟩ := gR1 (KX12_inState, 1) (List.mem_of_getElem? (i := 1) rfl)
  exact ⟨h1, t320, h2, h3, t303⟩
theorem gX12_standsIn : zGood KX12_standsIn 1 := by
  obtain ⟨h1, h2, h3⟩ := gR1 (KX12_standsIn, 1) (List.mem_of_getElem? (i := 2) rfl)
  exact ⟨h1, t321, h2, h3, t303⟩
theorem gX12_feed : zGood KX12_feed 5 := by
  obtain ⟨h1, h2, h3⟩ := gR1 (KX12_feed, 5) (List.mem_of_getElem? (i := 3) rfl)
  exact ⟨h1, t322, h2, h3, t303⟩
theorem gX12_end : zGood KX12_end 1 := by
  obtain ⟨h1, h2, h3⟩ := gR1 (KX12_end, 1) (List.mem_of_getElem? (i := 4) rfl)
  exact ⟨h1, t323, h2, h3, t303⟩
theorem gX12_letter : zGood KX12_letter 1 := by
  obtain ⟨h1, h2, h3⟩ := gR1 (KX12_letter, 1) (List.mem_of_getElem? (i := 5) rfl)
  exact ⟨h1, t324, h2, h3, t303⟩
theorem gX12_skip : zGood KX12_skip 0 := by
  obtain ⟨h1, h2, h3⟩ := gR1 (KX12_skip, 0) (List.mem_of_getElem? (i := 6) rfl)
  exact ⟨h1, t325, h2, h3, t303⟩
theorem gX12_isSign : zGood KX12_isSign 1 := by
  obtain ⟨h1, h2, h3⟩ := gR1 (KX12_isSign, 1) (List.mem_of_getElem? (i := 7) rfl)
  exact ⟨h1, t326, h2, h3, t303⟩
theorem gX12_has : zGood KX12_has 1 := by
  obtain ⟨h1, h2, h3⟩ := gR1 (KX12_has, 1) (List.mem_of_getElem? (i := 8) rfl)
  exact ⟨h1, t327, h2, h3, t303⟩
theorem gX12_wrong : zGood KX12_wrong 1 := by
  obtain ⟨h1, h2, h3⟩ := gR1 (KX12_wrong, 1) (List.mem_of_getElem? (i := 9) rfl)
  exact ⟨h1, t328, h2, h3, t303⟩
theorem gX12_here : zGood KX12_here 0 := by
  obtain ⟨h1, h2, h3⟩ := gR1 (KX12_here, 0) (List.mem_of_getElem? (i := 10) rfl)
  exact ⟨h1, t329, h2, h3, t303⟩
theorem gX12_figures : zGood KX12_figures 2 := by
  obtain ⟨h1, h2, h3⟩ := gR1 (KX12_figures, 2) (List.mem_of_getElem? (i := 11) rfl)
  exact ⟨h1, t330, h2, h3, t303⟩
theorem gX12_after : zGood KX12_after 3 := by
  obtain ⟨h1, h2, h3⟩ := gR1 (KX12_after, 3) (List.mem_of_getElem? (i := 12) rfl)
  exact ⟨h1, t331, h2, h3, t303⟩
theorem gX12_memberLine : zGood KX12_memberLine 1 := by
  obtain ⟨h1, h2, h3⟩ := gR1 (KX12_memberLine, 1) (List.mem_of_getElem? (i := 13) rfl)
  exact ⟨h1, t332, h2, h3, t303⟩
theorem gX12_row : zGood KX12_row 2 := by
  obtain ⟨h1, h2, h3⟩ := gR1 (KX12_row, 2) (List.mem_of_getElem? (i := 14) rfl)
  exact ⟨h1, t333, h2, h3, t303⟩
theorem gX12_motionLine : zGood KX12_motionLine 1 := by
  obtain ⟨h1, h2, h3⟩ := gR1 (KX12_motionLine, 1) (List.mem_of_getElem? (i := 15) rfl)
  exact ⟨h1, t334, h2, h3, t303⟩
theorem gR2 : ∀ q ∈ ([(KX12_sky, 0), (KX12_skyLine, 0), (KX12_placeLine, 0), (KX12_paperLine, 0), (KX12_tells, 3), (KX12_coastLine, 0), (KX12_begins, 0), (KX12_read, 1), (KX12_putsAside, 0), (KX12_comesBack, 0), (KX12_coast, 0), (KX12_part, 0), (KX12_sum, 0), (KX12_plain, 0), (KX12_atom, 0), (KX12_every, 0)] : List (zK × Nat)), plainName q.1.1.cls = true ∧ (q.1.1.cls ≠ "java/lang/invoke/MethodHandle" ∧ q.1.1.cls ≠ "java/lang/invoke/VarHandle" ∧ (parseMethodDescriptor q.1.1.desc).map (fun d => d.parameters.length) = some q.2) ∧ q.1.2.2.1 ≤ 40 := by decide +kernel
theorem gX12_sky : zGood KX12_sky 0 := by
  obtain ⟨h1, h2, h3⟩ := gR2 (KX12_sky, 0) (List.mem_of_getElem? (i := 0) rfl)
  exact ⟨h1, t335, h2, h3, t303⟩
theorem gX12_skyLine : zGood KX12_skyLine 0 := by
  obtain ⟨h1, h2, h3⟩ := gR2 (KX12_skyLine, 0) (List.mem_of_getElem? (i := 1) rfl)
  exact ⟨h1, t336, h2, h3, t303⟩
theorem gX12_placeLine : zGood KX12_placeLine 0 := by
  obtain ⟨h1, h2, h3⟩ := gR2 (KX12_placeLine, 0) (List.mem_of_getElem? (i := 2) rfl)
  exact ⟨h1, t337, h2, h3, t303⟩
theorem gX12_paperLine : zGood KX12_paperLine 0 := by
  obtain ⟨h1, h2, h3⟩ := gR2 (KX12_paperLine, 0) (List.mem_of_getElem? (i := 3) rfl)
  exact ⟨h1, t338, h2, h3, t303⟩
theorem gX12_tells : zGood KX12_tells 3 := by
  obtain ⟨h1, h2, h3⟩ := gR2 (KX12_tells, 3) (List.mem_of_getElem? (i := 4) rfl)
  exact ⟨h1, t339, h2, h3, t303⟩
theorem gX12_coastLine : zGood KX12_coastLine 0 := by
  obtain ⟨h1, h2, h3⟩ := gR2 (KX12_coastLine, 0) (List.mem_of_getElem? (i := 5) rfl)
  exact ⟨h1, t340, h2, h3, t303⟩
theorem gX12_begins : zGood KX12_begins 0 := by
  obtain ⟨h1, h2, h3⟩ := gR2 (KX12_begins, 0) (List.mem_of_getElem? (i := 6) rfl)
  exact ⟨h1, t341, h2, h3, t303⟩
theorem gX12_read : zGood KX12_read 1 := by
  obtain ⟨h1, h2, h3⟩ := gR2 (KX12_read, 1) (List.mem_of_getElem? (i := 7) rfl)
  exact ⟨h1, t342, h2, h3, t303⟩
theorem gX12_putsAside : zGood KX12_putsAside 0 := by
  obtain ⟨h1, h2, h3⟩ := gR2 (KX12_putsAside, 0) (List.mem_of_getElem? (i := 8) rfl)
  exact ⟨h1, t343, h2, h3, t303⟩
theorem gX12_comesBack : zGood KX12_comesBack 0 := by
  obtain ⟨h1, h2, h3⟩ := gR2 (KX12_comesBack, 0) (List.mem_of_getElem? (i := 9) rfl)
  exact ⟨h1, t344, h2, h3, t303⟩
theorem gX12_coast : zGood KX12_coast 0 := by
  obtain ⟨h1, h2, h3⟩ := gR2 (KX12_coast, 0) (List.mem_of_getElem? (i := 10) rfl)
  exact ⟨h1, t345, h2, h3, t303⟩
theorem gX12_part : zGood KX12_part 0 := by
  obtain ⟨h1, h2, h3⟩ := gR2 (KX12_part, 0) (List.mem_of_getElem? (i := 11) rfl)
  exact ⟨h1, t346, h2, h3, t303⟩
theorem gX12_sum : zGood KX12_sum 0 := by
  obtain ⟨h1, h2, h3⟩ := gR2 (KX12_sum, 0) (List.mem_of_getElem? (i := 12) rfl)
  exact ⟨h1, t347, h2, h3, t303⟩
theorem gX12_plain : zGood KX12_plain 0 := by
  obtain ⟨h1, h2, h3⟩ := gR2 (KX12_plain, 0) (List.mem_of_getElem? (i := 13) rfl)
  exact ⟨h1, t348, h2, h3, t303⟩
theorem gX12_atom : zGood KX12_atom 0 := by
  obtain ⟨h1, h2, h3⟩ := gR2 (KX12_atom, 0) (List.mem_of_getElem? (i := 14) rfl)
  exact ⟨h1, t349, h2, h3, t303⟩
theorem gX12_every : zGood KX12_every 0 := by
  obtain ⟨h1, h2, h3⟩ := gR2 (KX12_every, 0) (List.mem_of_getElem? (i := 15) rfl)
  exact ⟨h1, t350, h2, h3, t303⟩
theorem gR3 : ∀ q ∈ ([(KX12_some, 0), (KX12_lawLine, 0), (KX12_law, 0), (KX12_fault, 0), (KX12_asks, 4), (KX12_feltBy, 4), (KX12_lapsesIn, 3), (KX12_goesIn, 3), (KX12_goesWet, 1), (KX12_draw, 1), (KX12_logs, 1), (KX12_passes, 0), (KX12_passesOn, 1), (KX12_seatsOut, 0), (KX12_isFor, 1), (KX12_member, 2)] : List (zK × Nat)), plainName q.1.1.cls = true ∧ (q.1.1.cls ≠ "java/lang/invoke/MethodHandle" ∧ q.1.1.cls ≠ "java/lang/invoke/VarHandle" ∧ (parseMethodDescriptor q.1.1.desc).map (fun d => d.parameters.length) = some q.2) ∧ q.1.2.2.1 ≤ 40 := by decide +kernel
theorem gX12_some : zGood KX12_some 0 := by
  obtain ⟨h1, h2, h3⟩ := gR3 (KX12_some, 0) (List.mem_of_getElem? (i := 0) rfl)
  exact ⟨h1, t351, h2, h3, t303⟩
theorem gX12_lawLine : zGood KX12_lawLine 0 := by
  obtain ⟨h1, h2, h3⟩ := gR3 (KX12_lawLine, 0) (List.mem_of_getElem? (i := 1) rfl)
  exact ⟨h1, t352, h2, h3, t303⟩
theorem gX12_law : zGood KX12_law 0 := by
  obtain ⟨h1, h2, h3⟩ := gR3 (KX12_law, 0) (List.mem_of_getElem? (i := 2) rfl)
  exact ⟨h1, t353, h2, h3, t303⟩
theorem gX12_fault : zGood KX12_fault 0 := by
  obtain ⟨h1, h2, h3⟩ := gR3 (KX12_fault, 0) (List.mem_of_getElem? (i := 3) rfl)
  exact ⟨h1, t354, h2, h3, t303⟩
theorem gX12_asks : zGood KX12_asks 4 := by
  obtain ⟨h1, h2, h3⟩ := gR3 (KX12_asks, 4) (List.mem_of_getElem? (i := 4) rfl)
  exact ⟨h1, t355, h2, h3, t303⟩
theorem gX12_feltBy : zGood KX12_feltBy 4 := by
  obtain ⟨h1, h2, h3⟩ := gR3 (KX12_feltBy, 4) (List.mem_of_getElem? (i := 5) rfl)
  exact ⟨h1, t356, h2, h3, t303⟩
theorem gX12_lapsesIn : zGood KX12_lapsesIn 3 := by
  obtain ⟨h1, h2, h3⟩ := gR3 (KX12_lapsesIn, 3) (List.mem_of_getElem? (i := 6) rfl)
  exact ⟨h1, t357, h2, h3, t303⟩
theorem gX12_goesIn : zGood KX12_goesIn 3 := by
  obtain ⟨h1, h2, h3⟩ := gR3 (KX12_goesIn, 3) (List.mem_of_getElem? (i := 7) rfl)
  exact ⟨h1, t358, h2, h3, t303⟩
theorem gX12_goesWet : zGood KX12_goesWet 1 := by
  obtain ⟨h1, h2, h3⟩ := gR3 (KX12_goesWet, 1) (List.mem_of_getElem? (i := 8) rfl)
  exact ⟨h1, t359, h2, h3, t303⟩
theorem gX12_draw : zGood KX12_draw 1 := by
  obtain ⟨h1, h2, h3⟩ := gR3 (KX12_draw, 1) (List.mem_of_getElem? (i := 9) rfl)
  exact ⟨h1, t360, h2, h3, t303⟩
theorem gX12_logs : zGood KX12_logs 1 := by
  obtain ⟨h1, h2, h3⟩ := gR3 (KX12_logs, 1) (List.mem_of_getElem? (i := 10) rfl)
  exact ⟨h1, t361, h2, h3, t303⟩
theorem gX12_passes : zGood KX12_passes 0 := by
  obtain ⟨h1, h2, h3⟩ := gR3 (KX12_passes, 0) (List.mem_of_getElem? (i := 11) rfl)
  exact ⟨h1, t362, h2, h3, t303⟩
theorem gX12_passesOn : zGood KX12_passesOn 1 := by
  obtain ⟨h1, h2, h3⟩ := gR3 (KX12_passesOn, 1) (List.mem_of_getElem? (i := 12) rfl)
  exact ⟨h1, t363, h2, h3, t303⟩
theorem gX12_seatsOut : zGood KX12_seatsOut 0 := by
  obtain ⟨h1, h2, h3⟩ := gR3 (KX12_seatsOut, 0) (List.mem_of_getElem? (i := 13) rfl)
  exact ⟨h1, t364, h2, h3, t303⟩
theorem gX12_isFor : zGood KX12_isFor 1 := by
  obtain ⟨h1, h2, h3⟩ := gR3 (KX12_isFor, 1) (List.mem_of_getElem? (i := 14) rfl)
  exact ⟨h1, t365, h2, h3, t303⟩
theorem gX12_member : zGood KX12_member 2 := by
  obtain ⟨h1, h2, h3⟩ := gR3 (KX12_member, 2) (List.mem_of_getElem? (i := 15) rfl)
  exact ⟨h1, t366, h2, h3, t303⟩
theorem gR4 : ∀ q ∈ ([(KX12_motion, 2), (KX12_follows, 2), (KX12_exposed, 1), (KX12_paper, 1), (KX12_felt, 3), (KX12_goes, 3), (KX12_remembers, 0), (KX12_hours, 1), (KX12_sets, 2), (KX12_table, 2), (KX12_clear, 1), (KX12_changes, 3), (KX12_hat, 2), (KX12_out, 2), (KX12_walk, 2), (KX12_mind, 2)] : List (zK × Nat)), plainName q.1.1.cls = true ∧ (q.1.1.cls ≠ "java/lang/invoke/MethodHandle" ∧ q.1.1.cls ≠ "java/lang/invoke/VarHandle" ∧ (parseMethodDescriptor q.1.1.desc).map (fun d => d.parameters.length) = some q.2) ∧ q.1.2.2.1 ≤ 40 := by decide +kernel
theorem gX12_motion : zGood KX12_motion 2 := by
  obtain ⟨h1, h2, h3⟩ := gR4 (KX12_motion, 2) (List.mem_of_getElem? (i := 0) rfl)
  exact ⟨h1, t367, h2, h3, t303⟩
theorem gX12_follows : zGood KX12_follows 2 := by
  obtain ⟨h1, h2, h3⟩ := gR4 (KX12_follows, 2) (List.mem_of_getElem? (i := 1) rfl)
  exact ⟨h1, t368, h2, h3, t303⟩
theorem gX12_exposed : zGood KX12_exposed 1 := by
  obtain ⟨h1, h2, h3⟩ := gR4 (KX12_exposed, 1) (List.mem_of_getElem? (i := 2) rfl)
  exact ⟨h1, t369, h2, h3, t303⟩
theorem gX12_paper : zGood KX12_paper 1 := by
  obtain ⟨h1, h2, h3⟩ := gR4 (KX12_paper, 1) (List.mem_of_getElem? (i := 3) rfl)
  exact ⟨h1, t370, h2, h3, t303⟩
theorem gX12_felt : zGood KX12_felt 3 := by
  obtain ⟨h1, h2, h3⟩ := gR4 (KX12_felt, 3) (List.mem_of_getElem? (i := 4) rfl)
  exact ⟨h1, t371, h2, h3, t303⟩
theorem gX12_goes : zGood KX12_goes 3 := by
  obtain ⟨h1, h2, h3⟩ := gR4 (KX12_goes, 3) (List.mem_of_getElem? (i := 5) rfl)
  exact ⟨h1, t372, h2, h3, t303⟩
theorem gX12_remembers : zGood KX12_remembers 0 := by
  obtain ⟨h1, h2, h3⟩ := gR4 (KX12_remembers, 0) (List.mem_of_getElem? (i := 6) rfl)
  exact ⟨h1, t373, h2, h3, t303⟩
theorem gX12_hours : zGood KX12_hours 1 := by
  obtain ⟨h1, h2, h3⟩ := gR4 (KX12_hours, 1) (List.mem_of_getElem? (i := 7) rfl)
  exact ⟨h1, t374, h2, h3, t303⟩
theorem gX12_sets : zGood KX12_sets 2 := by
  obtain ⟨h1, h2, h3⟩ := gR4 (KX12_sets, 2) (List.mem_of_getElem? (i := 8) rfl)
  exact ⟨h1, t375, h2, h3, t303⟩
theorem gX12_table : zGood KX12_table 2 := by
  obtain ⟨h1, h2, h3⟩ := gR4 (KX12_table, 2) (List.mem_of_getElem? (i := 9) rfl)
  exact ⟨h1, t376, h2, h3, t303⟩
theorem gX12_clear : zGood KX12_clear 1 := by
  obtain ⟨h1, h2, h3⟩ := gR4 (KX12_clear, 1) (List.mem_of_getElem? (i := 10) rfl)
  exact ⟨h1, t377, h2, h3, t303⟩
theorem gX12_changes : zGood KX12_changes 3 := by
  obtain ⟨h1, h2, h3⟩ := gR4 (KX12_changes, 3) (List.mem_of_getElem? (i := 11) rfl)
  exact ⟨h1, t378, h2, h3, t303⟩
theorem gX12_hat : zGood KX12_hat 2 := by
  obtain ⟨h1, h2, h3⟩ := gR4 (KX12_hat, 2) (List.mem_of_getElem? (i := 12) rfl)
  exact ⟨h1, t379, h2, h3, t303⟩
theorem gX12_out : zGood KX12_out 2 := by
  obtain ⟨h1, h2, h3⟩ := gR4 (KX12_out, 2) (List.mem_of_getElem? (i := 13) rfl)
  exact ⟨h1, t380, h2, h3, t303⟩
theorem gX12_walk : zGood KX12_walk 2 := by
  obtain ⟨h1, h2, h3⟩ := gR4 (KX12_walk, 2) (List.mem_of_getElem? (i := 14) rfl)
  exact ⟨h1, t381, h2, h3, t303⟩
theorem gX12_mind : zGood KX12_mind 2 := by
  obtain ⟨h1, h2, h3⟩ := gR4 (KX12_mind, 2) (List.mem_of_getElem? (i := 15) rfl)
  exact ⟨h1, t382, h2, h3, t303⟩
theorem gR5 : ∀ q ∈ ([(KX12_seat, 2), (KX12_renew, 1), (KX12_chancesGo, 0), (KX12_chancesBegin, 0), (KX12_chancesIn, 1), (KX12_chance, 2), (KX12_carriesIn, 2), (KX12_carries, 2), (KX12_soonest, 2), (KX12_when, 1), (KX12_worst, 0), (KX12_bringsIn, 2), (KX12_papers, 0), (KX12_best, 1), (KX12_worthOf, 1), (KX12_shower, 2)] : List (zK × Nat)), plainName q.1.1.cls = true ∧ (q.1.1.cls ≠ "java/lang/invoke/MethodHandle" ∧ q.1.1.cls ≠ "java/lang/invoke/VarHandle" ∧ (parseMethodDescriptor q.1.1.desc).map (fun d => d.parameters.length) = some q.2) ∧ q.1.2.2.1 ≤ 40 := by decide +kernel
theorem gX12_seat : zGood KX12_seat 2 := by
  obtain ⟨h1, h2, h3⟩ := gR5 (KX12_seat, 2) (List.mem_of_getElem? (i := 0) rfl)
  exact ⟨h1, t383, h2, h3, t303⟩
theorem gX12_renew : zGood KX12_renew 1 := by
  obtain ⟨h1, h2, h3⟩ := gR5 (KX12_renew, 1) (List.mem_of_getElem? (i := 1) rfl)
  exact ⟨h1, t384, h2, h3, t303⟩
theorem gX12_chancesGo : zGood KX12_chancesGo 0 := by
  obtain ⟨h1, h2, h3⟩ := gR5 (KX12_chancesGo, 0) (List.mem_of_getElem? (i := 2) rfl)
  exact ⟨h1, t385, h2, h3, t303⟩
theorem gX12_chancesBegin : zGood KX12_chancesBegin 0 := by
  obtain ⟨h1, h2, h3⟩ := gR5 (KX12_chancesBegin, 0) (List.mem_of_getElem? (i := 3) rfl)
  exact ⟨h1, t386, h2, h3, t303⟩
theorem gX12_chancesIn : zGood KX12_chancesIn 1 := by
  obtain ⟨h1, h2, h3⟩ := gR5 (KX12_chancesIn, 1) (List.mem_of_getElem? (i := 4) rfl)
  exact ⟨h1, t387, h2, h3, t303⟩
theorem gX12_chance : zGood KX12_chance 2 := by
  obtain ⟨h1, h2, h3⟩ := gR5 (KX12_chance, 2) (List.mem_of_getElem? (i := 5) rfl)
  exact ⟨h1, t388, h2, h3, t303⟩
theorem gX12_carriesIn : zGood KX12_carriesIn 2 := by
  obtain ⟨h1, h2, h3⟩ := gR5 (KX12_carriesIn, 2) (List.mem_of_getElem? (i := 6) rfl)
  exact ⟨h1, t389, h2, h3, t303⟩
theorem gX12_carries : zGood KX12_carries 2 := by
  obtain ⟨h1, h2, h3⟩ := gR5 (KX12_carries, 2) (List.mem_of_getElem? (i := 7) rfl)
  exact ⟨h1, t390, h2, h3, t303⟩
theorem gX12_soonest : zGood KX12_soonest 2 := by
  obtain ⟨h1, h2, h3⟩ := gR5 (KX12_soonest, 2) (List.mem_of_getElem? (i := 8) rfl)
  exact ⟨h1, t391, h2, h3, t303⟩
theorem gX12_when : zGood KX12_when 1 := by
  obtain ⟨h1, h2, h3⟩ := gR5 (KX12_when, 1) (List.mem_of_getElem? (i := 9) rfl)
  exact ⟨h1, t392, h2, h3, t303⟩
theorem gX12_worst : zGood KX12_worst 0 := by
  obtain ⟨h1, h2, h3⟩ := gR5 (KX12_worst, 0) (List.mem_of_getElem? (i := 10) rfl)
  exact ⟨h1, t393, h2, h3, t303⟩
theorem gX12_bringsIn : zGood KX12_bringsIn 2 := by
  obtain ⟨h1, h2, h3⟩ := gR5 (KX12_bringsIn, 2) (List.mem_of_getElem? (i := 11) rfl)
  exact ⟨h1, t394, h2, h3, t303⟩
theorem gX12_papers : zGood KX12_papers 0 := by
  obtain ⟨h1, h2, h3⟩ := gR5 (KX12_papers, 0) (List.mem_of_getElem? (i := 12) rfl)
  exact ⟨h1, t395, h2, h3, t303⟩
theorem gX12_best : zGood KX12_best 1 := by
  obtain ⟨h1, h2, h3⟩ := gR5 (KX12_best, 1) (List.mem_of_getElem? (i := 13) rfl)
  exact ⟨h1, t396, h2, h3, t303⟩
theorem gX12_worthOf : zGood KX12_worthOf 1 := by
  obtain ⟨h1, h2, h3⟩ := gR5 (KX12_worthOf, 1) (List.mem_of_getElem? (i := 14) rfl)
  exact ⟨h1, t397, h2, h3, t303⟩
theorem gX12_shower : zGood KX12_shower 2 := by
  obtain ⟨h1, h2, h3⟩ := gR5 (KX12_shower, 2) (List.mem_of_getElem? (i := 15) rfl)
  exact ⟨h1, t398, h2, h3, t303⟩
theorem gR6 : ∀ q ∈ ([(KX12_isHastier, 2), (KX12_haste, 1), (KX12_isWet, 2), (KX12_areCuffs, 1), (KX12_fitsCuffs, 3), (KX12_rows, 2), (KX12_waysOfAll, 0), (KX12_heard, 0), (KX12_skiesNow, 0), (KX12_cuffs, 1), (KX12_likely, 0), (KX12_ago, 1), (KX12_ask, 0), (KX12_seenBy, 1), (KX12_windows, 0), (KX12_postsOf, 0)] : List (zK × Nat)), plainName q.1.1.cls = true ∧ (q.1.1.cls ≠ "java/lang/invoke/MethodHandle" ∧ q.1.1.cls ≠ "java/lang/invoke/VarHandle" ∧ (parseMethodDescriptor q.1.1.desc).map (fun d => d.parameters.length) = some q.2) ∧ q.1.2.2.1 ≤ 40 := by decide +kernel
theorem gX12_isHastier : zGood KX12_isHastier 2 := by
  obtain ⟨h1, h2, h3⟩ := gR6 (KX12_isHastier, 2) (List.mem_of_getElem? (i := 0) rfl)
  exact ⟨h1, t399, h2, h3, t303⟩
theorem gX12_haste : zGood KX12_haste 1 := by
  obtain ⟨h1, h2, h3⟩ := gR6 (KX12_haste, 1) (List.mem_of_getElem? (i := 1) rfl)
  exact ⟨h1, t400, h2, h3, t303⟩
theorem gX12_isWet : zGood KX12_isWet 2 := by
  obtain ⟨h1, h2, h3⟩ := gR6 (KX12_isWet, 2) (List.mem_of_getElem? (i := 2) rfl)
  exact ⟨h1, t401, h2, h3, t303⟩
theorem gX12_areCuffs : zGood KX12_areCuffs 1 := by
  obtain ⟨h1, h2, h3⟩ := gR6 (KX12_areCuffs, 1) (List.mem_of_getElem? (i := 3) rfl)
  exact ⟨h1, t402, h2, h3, t303⟩
theorem gX12_fitsCuffs : zGood KX12_fitsCuffs 3 := by
  obtain ⟨h1, h2, h3⟩ := gR6 (KX12_fitsCuffs, 3) (List.mem_of_getElem? (i := 4) rfl)
  exact ⟨h1, t403, h2, h3, t303⟩
theorem gX12_rows : zGood KX12_rows 2 := by
  obtain ⟨h1, h2, h3⟩ := gR6 (KX12_rows, 2) (List.mem_of_getElem? (i := 5) rfl)
  exact ⟨h1, t404, h2, h3, t303⟩
theorem gX12_waysOfAll : zGood KX12_waysOfAll 0 := by
  obtain ⟨h1, h2, h3⟩ := gR6 (KX12_waysOfAll, 0) (List.mem_of_getElem? (i := 6) rfl)
  exact ⟨h1, t405, h2, h3, t303⟩
theorem gX12_heard : zGood KX12_heard 0 := by
  obtain ⟨h1, h2, h3⟩ := gR6 (KX12_heard, 0) (List.mem_of_getElem? (i := 7) rfl)
  exact ⟨h1, t406, h2, h3, t303⟩
theorem gX12_skiesNow : zGood KX12_skiesNow 0 := by
  obtain ⟨h1, h2, h3⟩ := gR6 (KX12_skiesNow, 0) (List.mem_of_getElem? (i := 8) rfl)
  exact ⟨h1, t407, h2, h3, t303⟩
theorem gX12_cuffs : zGood KX12_cuffs 1 := by
  obtain ⟨h1, h2, h3⟩ := gR6 (KX12_cuffs, 1) (List.mem_of_getElem? (i := 9) rfl)
  exact ⟨h1, t408, h2, h3, t303⟩
theorem gX12_likely : zGood KX12_likely 0 := by
  obtain ⟨h1, h2, h3⟩ := gR6 (KX12_likely, 0) (List.mem_of_getElem? (i := 10) rfl)
  exact ⟨h1, t409, h2, h3, t303⟩
theorem gX12_ago : zGood KX12_ago 1 := by
  obtain ⟨h1, h2, h3⟩ := gR6 (KX12_ago, 1) (List.mem_of_getElem? (i := 11) rfl)
  exact ⟨h1, t410, h2, h3, t303⟩
theorem gX12_ask : zGood KX12_ask 0 := by
  obtain ⟨h1, h2, h3⟩ := gR6 (KX12_ask, 0) (List.mem_of_getElem? (i := 12) rfl)
  exact ⟨h1, t411, h2, h3, t303⟩
theorem gX12_seenBy : zGood KX12_seenBy 1 := by
  obtain ⟨h1, h2, h3⟩ := gR6 (KX12_seenBy, 1) (List.mem_of_getElem? (i := 13) rfl)
  exact ⟨h1, t412, h2, h3, t303⟩
theorem gX12_windows : zGood KX12_windows 0 := by
  obtain ⟨h1, h2, h3⟩ := gR6 (KX12_windows, 0) (List.mem_of_getElem? (i := 14) rfl)
  exact ⟨h1, t413, h2, h3, t303⟩
theorem gX12_postsOf : zGood KX12_postsOf 0 := by
  obtain ⟨h1, h2, h3⟩ := gR6 (KX12_postsOf, 0) (List.mem_of_getElem? (i := 15) rfl)
  exact ⟨h1, t414, h2, h3, t303⟩
theorem gR7 : ∀ q ∈ ([(KX12_posts, 1), (KX12_voters, 0), (KX12_votesOf, 1), (KX12_winsBy, 1), (KX12_wins, 1), (KX12_swingsBy, 2), (KX12_swingsOf, 1), (KX12_isVoter, 1), (KX12_swings, 1), (KX12_power, 1), (KX12_isLeast, 1), (KX12_minimal, 0), (KX12_leader, 0), (KX12_goesWetBy, 2), (KX12_minds, 1), (KX12_parts, 3)] : List (zK × Nat)), plainName q.1.1.cls = true ∧ (q.1.1.cls ≠ "java/lang/invoke/MethodHandle" ∧ q.1.1.cls ≠ "java/lang/invoke/VarHandle" ∧ (parseMethodDescriptor q.1.1.desc).map (fun d => d.parameters.length) = some q.2) ∧ q.1.2.2.1 ≤ 40 := by decide +kernel
theorem gX12_posts : zGood KX12_posts 1 := by
  obtain ⟨h1, h2, h3⟩ := gR7 (KX12_posts, 1) (List.mem_of_getElem? (i := 0) rfl)
  exact ⟨h1, t415, h2, h3, t303⟩
theorem gX12_voters : zGood KX12_voters 0 := by
  obtain ⟨h1, h2, h3⟩ := gR7 (KX12_voters, 0) (List.mem_of_getElem? (i := 1) rfl)
  exact ⟨h1, t416, h2, h3, t303⟩
theorem gX12_votesOf : zGood KX12_votesOf 1 := by
  obtain ⟨h1, h2, h3⟩ := gR7 (KX12_votesOf, 1) (List.mem_of_getElem? (i := 2) rfl)
  exact ⟨h1, t417, h2, h3, t303⟩
theorem gX12_winsBy : zGood KX12_winsBy 1 := by
  obtain ⟨h1, h2, h3⟩ := gR7 (KX12_winsBy, 1) (List.mem_of_getElem? (i := 3) rfl)
  exact ⟨h1, t418, h2, h3, t303⟩
theorem gX12_wins : zGood KX12_wins 1 := by
  obtain ⟨h1, h2, h3⟩ := gR7 (KX12_wins, 1) (List.mem_of_getElem? (i := 4) rfl)
  exact ⟨h1, t419, h2, h3, t303⟩
theorem gX12_swingsBy : zGood KX12_swingsBy 2 := by
  obtain ⟨h1, h2, h3⟩ := gR7 (KX12_swingsBy, 2) (List.mem_of_getElem? (i := 5) rfl)
  exact ⟨h1, t420, h2, h3, t303⟩
theorem gX12_swingsOf : zGood KX12_swingsOf 1 := by
  obtain ⟨h1, h2, h3⟩ := gR7 (KX12_swingsOf, 1) (List.mem_of_getElem? (i := 6) rfl)
  exact ⟨h1, t421, h2, h3, t303⟩
theorem gX12_isVoter : zGood KX12_isVoter 1 := by
  obtain ⟨h1, h2, h3⟩ := gR7 (KX12_isVoter, 1) (List.mem_of_getElem? (i := 7) rfl)
  exact ⟨h1, t422, h2, h3, t303⟩
theorem gX12_swings : zGood KX12_swings 1 := by
  obtain ⟨h1, h2, h3⟩ := gR7 (KX12_swings, 1) (List.mem_of_getElem? (i := 8) rfl)
  exact ⟨h1, t423, h2, h3, t303⟩
theorem gX12_power : zGood KX12_power 1 := by
  obtain ⟨h1, h2, h3⟩ := gR7 (KX12_power, 1) (List.mem_of_getElem? (i := 9) rfl)
  exact ⟨h1, t424, h2, h3, t303⟩
theorem gX12_isLeast : zGood KX12_isLeast 1 := by
  obtain ⟨h1, h2, h3⟩ := gR7 (KX12_isLeast, 1) (List.mem_of_getElem? (i := 10) rfl)
  exact ⟨h1, t425, h2, h3, t303⟩
theorem gX12_minimal : zGood KX12_minimal 0 := by
  obtain ⟨h1, h2, h3⟩ := gR7 (KX12_minimal, 0) (List.mem_of_getElem? (i := 11) rfl)
  exact ⟨h1, t426, h2, h3, t303⟩
theorem gX12_leader : zGood KX12_leader 0 := by
  obtain ⟨h1, h2, h3⟩ := gR7 (KX12_leader, 0) (List.mem_of_getElem? (i := 12) rfl)
  exact ⟨h1, t427, h2, h3, t303⟩
theorem gX12_goesWetBy : zGood KX12_goesWetBy 2 := by
  obtain ⟨h1, h2, h3⟩ := gR7 (KX12_goesWetBy, 2) (List.mem_of_getElem? (i := 13) rfl)
  exact ⟨h1, t428, h2, h3, t303⟩
theorem gX12_minds : zGood KX12_minds 1 := by
  obtain ⟨h1, h2, h3⟩ := gR7 (KX12_minds, 1) (List.mem_of_getElem? (i := 14) rfl)
  exact ⟨h1, t429, h2, h3, t303⟩
theorem gX12_parts : zGood KX12_parts 3 := by
  obtain ⟨h1, h2, h3⟩ := gR7 (KX12_parts, 3) (List.mem_of_getElem? (i := 15) rfl)
  exact ⟨h1, t430, h2, h3, t303⟩
theorem gR8 : ∀ q ∈ ([(KX12_bargain, 2), (KX12_likeOf, 2), (KX12_like, 2), (KX12_foes, 0), (KX12_dryOf, 1), (KX12_dry, 1), (KX12_drought, 1), (KX12_quorate, 0), (KX12_enough, 0), (KX12_movedHas, 2), (KX12_moverHas, 3), (KX12_othersHave, 3), (KX12_rests, 1), (KX12_tabled, 0), (KX12_soaked, 0), (KX12_twins, 0)] : List (zK × Nat)), plainName q.1.1.cls = true ∧ (q.1.1.cls ≠ "java/lang/invoke/MethodHandle" ∧ q.1.1.cls ≠ "java/lang/invoke/VarHandle" ∧ (parseMethodDescriptor q.1.1.desc).map (fun d => d.parameters.length) = some q.2) ∧ q.1.2.2.1 ≤ 40 := by decide +kernel
theorem gX12_bargain : zGood KX12_bargain 2 := by
  obtain ⟨h1, h2, h3⟩ := gR8 (KX12_bargain, 2) (List.mem_of_getElem? (i := 0) rfl)
  exact ⟨h1, t431, h2, h3, t303⟩
theorem gX12_likeOf : zGood KX12_likeOf 2 := by
  obtain ⟨h1, h2, h3⟩ := gR8 (KX12_likeOf, 2) (List.mem_of_getElem? (i := 1) rfl)
  exact ⟨h1, t432, h2, h3, t303⟩
theorem gX12_like : zGood KX12_like 2 := by
  obtain ⟨h1, h2, h3⟩ := gR8 (KX12_like, 2) (List.mem_of_getElem? (i := 2) rfl)
  exact ⟨h1, t433, h2, h3, t303⟩
theorem gX12_foes : zGood KX12_foes 0 := by
  obtain ⟨h1, h2, h3⟩ := gR8 (KX12_foes, 0) (List.mem_of_getElem? (i := 3) rfl)
  exact ⟨h1, t434, h2, h3, t303⟩
theorem gX12_dryOf : zGood KX12_dryOf 1 := by
  obtain ⟨h1, h2, h3⟩ := gR8 (KX12_dryOf, 1) (List.mem_of_getElem? (i := 4) rfl)
  exact ⟨h1, t435, h2, h3, t303⟩
theorem gX12_dry : zGood KX12_dry 1 := by
  obtain ⟨h1, h2, h3⟩ := gR8 (KX12_dry, 1) (List.mem_of_getElem? (i := 5) rfl)
  exact ⟨h1, t436, h2, h3, t303⟩
theorem gX12_drought : zGood KX12_drought 1 := by
  obtain ⟨h1, h2, h3⟩ := gR8 (KX12_drought, 1) (List.mem_of_getElem? (i := 6) rfl)
  exact ⟨h1, t437, h2, h3, t303⟩
theorem gX12_quorate : zGood KX12_quorate 0 := by
  obtain ⟨h1, h2, h3⟩ := gR8 (KX12_quorate, 0) (List.mem_of_getElem? (i := 7) rfl)
  exact ⟨h1, t438, h2, h3, t303⟩
theorem gX12_enough : zGood KX12_enough 0 := by
  obtain ⟨h1, h2, h3⟩ := gR8 (KX12_enough, 0) (List.mem_of_getElem? (i := 8) rfl)
  exact ⟨h1, t439, h2, h3, t303⟩
theorem gX12_movedHas : zGood KX12_movedHas 2 := by
  obtain ⟨h1, h2, h3⟩ := gR8 (KX12_movedHas, 2) (List.mem_of_getElem? (i := 9) rfl)
  exact ⟨h1, t440, h2, h3, t303⟩
theorem gX12_moverHas : zGood KX12_moverHas 3 := by
  obtain ⟨h1, h2, h3⟩ := gR8 (KX12_moverHas, 3) (List.mem_of_getElem? (i := 10) rfl)
  exact ⟨h1, t441, h2, h3, t303⟩
theorem gX12_othersHave : zGood KX12_othersHave 3 := by
  obtain ⟨h1, h2, h3⟩ := gR8 (KX12_othersHave, 3) (List.mem_of_getElem? (i := 11) rfl)
  exact ⟨h1, t442, h2, h3, t303⟩
theorem gX12_rests : zGood KX12_rests 1 := by
  obtain ⟨h1, h2, h3⟩ := gR8 (KX12_rests, 1) (List.mem_of_getElem? (i := 12) rfl)
  exact ⟨h1, t443, h2, h3, t303⟩
theorem gX12_tabled : zGood KX12_tabled 0 := by
  obtain ⟨h1, h2, h3⟩ := gR8 (KX12_tabled, 0) (List.mem_of_getElem? (i := 13) rfl)
  exact ⟨h1, t444, h2, h3, t303⟩
theorem gX12_soaked : zGood KX12_soaked 0 := by
  obtain ⟨h1, h2, h3⟩ := gR8 (KX12_soaked, 0) (List.mem_of_getElem? (i := 14) rfl)
  exact ⟨h1, t445, h2, h3, t303⟩
theorem gX12_twins : zGood KX12_twins 0 := by
  obtain ⟨h1, h2, h3⟩ := gR8 (KX12_twins, 0) (List.mem_of_getElem? (i := 15) rfl)
  exact ⟨h1, t446, h2, h3, t303⟩
theorem gR9 : ∀ q ∈ ([(KX12_richest, 0), (KX12_trial, 2), (KX12_span, 2), (KX12_logged, 2), (KX12_led, 2), (KX12_log, 2), (KX12_seed, 1), (KX12_undo, 0), (KX12_image, 0), (KX12_back, 0), (KX12_count, 1)] : List (zK × Nat)), plainName q.1.1.cls = true ∧ (q.1.1.cls ≠ "java/lang/invoke/MethodHandle" ∧ q.1.1.cls ≠ "java/lang/invoke/VarHandle" ∧ (parseMethodDescriptor q.1.1.desc).map (fun d => d.parameters.length) = some q.2) ∧ q.1.2.2.1 ≤ 40 := by decide +kernel
theorem gX12_richest : zGood KX12_richest 0 := by
  obtain ⟨h1, h2, h3⟩ := gR9 (KX12_richest, 0) (List.mem_of_getElem? (i := 0) rfl)
  exact ⟨h1, t447, h2, h3, t303⟩
theorem gX12_trial : zGood KX12_trial 2 := by
  obtain ⟨h1, h2, h3⟩ := gR9 (KX12_trial, 2) (List.mem_of_getElem? (i := 1) rfl)
  exact ⟨h1, t448, h2, h3, t303⟩
theorem gX12_span : zGood KX12_span 2 := by
  obtain ⟨h1, h2, h3⟩ := gR9 (KX12_span, 2) (List.mem_of_getElem? (i := 2) rfl)
  exact ⟨h1, t449, h2, h3, t303⟩
theorem gX12_logged : zGood KX12_logged 2 := by
  obtain ⟨h1, h2, h3⟩ := gR9 (KX12_logged, 2) (List.mem_of_getElem? (i := 3) rfl)
  exact ⟨h1, t450, h2, h3, t303⟩
theorem gX12_led : zGood KX12_led 2 := by
  obtain ⟨h1, h2, h3⟩ := gR9 (KX12_led, 2) (List.mem_of_getElem? (i := 4) rfl)
  exact ⟨h1, t451, h2, h3, t303⟩
theorem gX12_log : zGood KX12_log 2 := by
  obtain ⟨h1, h2, h3⟩ := gR9 (KX12_log, 2) (List.mem_of_getElem? (i := 5) rfl)
  exact ⟨h1, t452, h2, h3, t303⟩
theorem gX12_seed : zGood KX12_seed 1 := by
  obtain ⟨h1, h2, h3⟩ := gR9 (KX12_seed, 1) (List.mem_of_getElem? (i := 6) rfl)
  exact ⟨h1, t453, h2, h3, t303⟩
theorem gX12_undo : zGood KX12_undo 0 := by
  obtain ⟨h1, h2, h3⟩ := gR9 (KX12_undo, 0) (List.mem_of_getElem? (i := 7) rfl)
  exact ⟨h1, t454, h2, h3, t303⟩
theorem gX12_image : zGood KX12_image 0 := by
  obtain ⟨h1, h2, h3⟩ := gR9 (KX12_image, 0) (List.mem_of_getElem? (i := 8) rfl)
  exact ⟨h1, t455, h2, h3, t303⟩
theorem gX12_back : zGood KX12_back 0 := by
  obtain ⟨h1, h2, h3⟩ := gR9 (KX12_back, 0) (List.mem_of_getElem? (i := 9) rfl)
  exact ⟨h1, t456, h2, h3, t303⟩
theorem gX12_count : zGood KX12_count 1 := by
  obtain ⟨h1, h2, h3⟩ := gR9 (KX12_count, 1) (List.mem_of_getElem? (i := 10) rfl)
  exact ⟨h1, t457, h2, h3, t303⟩
theorem pd_AI : parseFieldDescriptor "[I" = some (.array .int) := by decide +kernel
theorem pd_I : parseFieldDescriptor "I" = some .int := by decide +kernel
theorem pd_AJ : parseFieldDescriptor "[J" = some (.array .long) := by decide +kernel
theorem pd_Z : parseFieldDescriptor "Z" = some .boolean := by decide +kernel
theorem oX12_1 : Cond.methodLink RX12 1 Lib.objectInit ∈ zTg := t0
theorem lX12_7 : zFl RX12 7 12 1 2 (.array .int) true := ⟨(RX12, TX12, 26), rfl, Nat.le_of_ble_eq_true rfl, t1, rfl, pd_AI, rfl, rfl⟩
theorem lX12_13 : zFl RX12 13 12 2 2 (.array .int) true := ⟨(RX12, TX12, 26), rfl, Nat.le_of_ble_eq_true rfl, t2, rfl, pd_AI, rfl, rfl⟩
theorem lX12_16 : zFl RX12 16 12 4 2 (.array .int) true := ⟨(RX12, TX12, 26), rfl, Nat.le_of_ble_eq_true rfl, t3, rfl, pd_AI, rfl, rfl⟩
theorem lX12_19 : zFl RX12 19 12 5 2 (.array .int) true := ⟨(RX12, TX12, 26), rfl, Nat.le_of_ble_eq_true rfl, t4, rfl, pd_AI, rfl, rfl⟩
theorem lX12_22 : zFl RX12 22 12 7 2 (.array .int) true := ⟨(RX12, TX12, 26), rfl, Nat.le_of_ble_eq_true rfl, t5, rfl, pd_AI, rfl, rfl⟩
theorem lX12_25 : zFl RX12 25 12 12 0 .int false := ⟨(RX12, TX12, 26), rfl, Nat.le_of_ble_eq_true rfl, t6, rfl, pd_I, rfl, rfl⟩
theorem lX12_29 : zFl RX12 29 12 14 2 (.array .int) true := ⟨(RX12, TX12, 26), rfl, Nat.le_of_ble_eq_true rfl, t7, rfl, pd_AI, rfl, rfl⟩
theorem lX12_32 : zFl RX12 32 12 20 2 (.array .int) true := ⟨(RX12, TX12, 26), rfl, Nat.le_of_ble_eq_true rfl, t8, rfl, pd_AI, rfl, rfl⟩
theorem lX12_35 : zFl RX12 35 12 21 2 (.array .int) true := ⟨(RX12, TX12, 26), rfl, Nat.le_of_ble_eq_true rfl, t9, rfl, pd_AI, rfl, rfl⟩
theorem lX12_38 : zFl RX12 38 12 22 2 (.array .long) true := ⟨(RX12, TX12, 26), rfl, Nat.le_of_ble_eq_true rfl, t10, rfl, pd_AJ, rfl, rfl⟩
theorem lX12_42 : zFl RX12 42 12 23 2 (.array .long) true := ⟨(RX12, TX12, 26), rfl, Nat.le_of_ble_eq_true rfl, t11, rfl, pd_AJ, rfl, rfl⟩
theorem lX12_45 : zFl RX12 45 12 24 2 (.array .int) true := ⟨(RX12, TX12, 26), rfl, Nat.le_of_ble_eq_true rfl, t12, rfl, pd_AI, rfl, rfl⟩
theorem lX12_48 : zFl RX12 48 12 0 0 .int false := ⟨(RX12, TX12, 26), rfl, Nat.le_of_ble_eq_true rfl, t13, rfl, pd_I, rfl, rfl⟩
theorem vX12_51 : zSc RX12 51 KX12_isIn 3 := ⟨gX12_isIn, rfl, t15, t14⟩
theorem vX12_55 : zVc RX12 55 KX12_ofMotion 2 12 := ⟨gX12_ofMotion, rfl, ⟨t16, t17, t18⟩, (RX12, TX12, 26), rfl, rfl⟩
theorem vX12_59 : zVc RX12 59 KX12_weight 2 12 := ⟨gX12_weight, rfl, ⟨t19, t20, t21⟩, (RX12, TX12, 26), rfl, rfl⟩
theorem vX12_62 : zVc RX12 62 KX12_of 2 12 := ⟨gX12_of, rfl, ⟨t22, t23, t24⟩, (RX12, TX12, 26), rfl, rfl⟩
theorem lX12_65 : zFl RX12 65 12 8 0 .int false := ⟨(RX12, TX12, 26), rfl, Nat.le_of_ble_eq_true rfl, t25, rfl, pd_I, rfl, rfl⟩
theorem lX12_68 : zFl RX12 68 12 9 0 .int false := ⟨(RX12, TX12, 26), rfl, Nat.le_of_ble_eq_true rfl, t26, rfl, pd_I, rfl, rfl⟩
theorem lX12_71 : zFl RX12 71 12 11 0 .int false := ⟨(RX12, TX12, 26), rfl, Nat.le_of_ble_eq_true rfl, t27, rfl, pd_I, rfl, rfl⟩
theorem lX12_74 : zFl RX12 74 12 10 0 .int false := ⟨(RX12, TX12, 26), rfl, Nat.le_of_ble_eq_true rfl, t28, rfl, pd_I, rfl, rfl⟩
theorem vX12_77 : zVc RX12 77 KX12_letter 1 12 := ⟨gX12_letter, rfl, ⟨t29, t30, t31⟩, (RX12, TX12, 26), rfl, rfl⟩
theorem vX12_81 : zVc RX12 81 KX12_skip 0 12 := ⟨gX12_skip, rfl, ⟨t32, t33, t34⟩, (RX12, TX12, 26), rfl, rfl⟩
theorem vX12_84 : zMl RX12 84 KJ0_length_8abf5 := ⟨t35, t36, t37⟩
theorem vX12_90 : zMl RX12 90 KJ0_charAt_5068e := ⟨t38, t39, t40⟩
theorem vX12_94 : zVc RX12 94 KX12_here 0 12 := ⟨gX12_here, rfl, ⟨t41, t42, t43⟩, (RX12, TX12, 26), rfl, rfl⟩
theorem vX12_97 : zVc RX12 97 KX12_wrong 1 12 := ⟨gX12_wrong, rfl, ⟨t44, t45, t46⟩, (RX12, TX12, 26), rfl, rfl⟩
theorem vX12_101 : zVc RX12 101 KX12_has 1 12 := ⟨gX12_has, rfl, ⟨t47, t48, t49⟩, (RX12, TX12, 26), rfl, rfl⟩
theorem vX12_105 : zVc RX12 105 KX12_figures 2 12 := ⟨gX12_figures, rfl, ⟨t50, t51, t52⟩, (RX12, TX12, 26), rfl, rfl⟩
theorem vX12_109 : zVc RX12 109 KX12_after 3 12 := ⟨gX12_after, rfl, ⟨t53, t54, t55⟩, (RX12, TX12, 26), rfl, rfl⟩
theorem vX12_126 : zVc RX12 126 KX12_row 2 12 := ⟨gX12_row, rfl, ⟨t56, t57, t58⟩, (RX12, TX12, 26), rfl, rfl⟩
theorem vX12_139 : zVc RX12 139 KX12_sky 0 12 := ⟨gX12_sky, rfl, ⟨t59, t60, t61⟩, (RX12, TX12, 26), rfl, rfl⟩
theorem vX12_144 : zVc RX12 144 KX12_standsIn 1 12 := ⟨gX12_standsIn, rfl, ⟨t62, t63, t64⟩, (RX12, TX12, 26), rfl, rfl⟩
theorem vX12_149 : zVc RX12 149 KX12_memberLine 1 12 := ⟨gX12_memberLine, rfl, ⟨t65, t66, t67⟩, (RX12, TX12, 26), rfl, rfl⟩
theorem vX12_154 : zVc RX12 154 KX12_motionLine 1 12 := ⟨gX12_motionLine, rfl, ⟨t68, t69, t70⟩, (RX12, TX12, 26), rfl, rfl⟩
theorem vX12_158 : zVc RX12 158 KX12_skyLine 0 12 := ⟨gX12_skyLine, rfl, ⟨t71, t72, t73⟩, (RX12, TX12, 26), rfl, rfl⟩
theorem vX12_165 : zVc RX12 165 KX12_placeLine 0 12 := ⟨gX12_placeLine, rfl, ⟨t74, t75, t76⟩, (RX12, TX12, 26), rfl, rfl⟩
theorem vX12_170 : zVc RX12 170 KX12_tells 3 12 := ⟨gX12_tells, rfl, ⟨t77, t78, t79⟩, (RX12, TX12, 26), rfl, rfl⟩
theorem vX12_180 : zVc RX12 180 KX12_paperLine 0 12 := ⟨gX12_paperLine, rfl, ⟨t80, t81, t82⟩, (RX12, TX12, 26), rfl, rfl⟩
theorem lX12_187 : zFl RX12 187 12 13 0 .int false := ⟨(RX12, TX12, 26), rfl, Nat.le_of_ble_eq_true rfl, t83, rfl, pd_I, rfl, rfl⟩
theorem vX12_190 : zVc RX12 190 KX12_lawLine 0 12 := ⟨gX12_lawLine, rfl, ⟨t84, t85, t86⟩, (RX12, TX12, 26), rfl, rfl⟩
theorem vX12_193 : zVc RX12 193 KX12_coastLine 0 12 := ⟨gX12_coastLine, rfl, ⟨t87, t88, t89⟩, (RX12, TX12, 26), rfl, rfl⟩
theorem vX12_196 : zVc RX12 196 KX12_isSign 1 12 := ⟨gX12_isSign, rfl, ⟨t90, t91, t92⟩, (RX12, TX12, 26), rfl, rfl⟩
theorem vX12_200 : zVc RX12 200 KX12_putsAside 0 12 := ⟨gX12_putsAside, rfl, ⟨t93, t94, t95⟩, (RX12, TX12, 26), rfl, rfl⟩
theorem vX12_203 : zVc RX12 203 KX12_begins 0 12 := ⟨gX12_begins, rfl, ⟨t96, t97, t98⟩, (RX12, TX12, 26), rfl, rfl⟩
theorem vX12_206 : zVc RX12 206 KX12_read 1 12 := ⟨gX12_read, rfl, ⟨t99, t100, t101⟩, (RX12, TX12, 26), rfl, rfl⟩
theorem vX12_210 : zVc RX12 210 KX12_comesBack 0 12 := ⟨gX12_comesBack, rfl, ⟨t102, t103, t104⟩, (RX12, TX12, 26), rfl, rfl⟩
theorem lX12_213 : zFl RX12 213 12 6 0 .int false := ⟨(RX12, TX12, 26), rfl, Nat.le_of_ble_eq_true rfl, t105, rfl, pd_I, rfl, rfl⟩
theorem vX12_216 : zVc RX12 216 KX12_part 0 12 := ⟨gX12_part, rfl, ⟨t106, t107, t108⟩, (RX12, TX12, 26), rfl, rfl⟩
theorem lX12_219 : zFl RX12 219 12 15 0 .boolean false := ⟨(RX12, TX12, 26), rfl, Nat.le_of_ble_eq_true rfl, t109, rfl, pd_Z, rfl, rfl⟩
theorem lX12_225 : zFl RX12 225 12 16 0 .boolean false := ⟨(RX12, TX12, 26), rfl, Nat.le_of_ble_eq_true rfl, t110, rfl, pd_Z, rfl, rfl⟩
theorem vX12_228 : zVc RX12 228 KX12_sum 0 12 := ⟨gX12_sum, rfl, ⟨t111, t112, t113⟩, (RX12, TX12, 26), rfl, rfl⟩
theorem vX12_233 : zVc RX12 233 KX12_plain 0 12 := ⟨gX12_plain, rfl, ⟨t114, t115, t116⟩, (RX12, TX12, 26), rfl, rfl⟩
theorem vX12_237 : zVc RX12 237 KX12_atom 0 12 := ⟨gX12_atom, rfl, ⟨t117, t118, t119⟩, (RX12, TX12, 26), rfl, rfl⟩
theorem vX12_240 : zVc RX12 240 KX12_some 0 12 := ⟨gX12_some, rfl, ⟨t120, t121, t122⟩, (RX12, TX12, 26), rfl, rfl⟩
theorem vX12_245 : zVc RX12 245 KX12_every 0 12 := ⟨gX12_every, rfl, ⟨t123, t124, t125⟩, (RX12, TX12, 26), rfl, rfl⟩
theorem lX12_258 : zFl RX12 258 12 18 0 .boolean false := ⟨(RX12, TX12, 26), rfl, Nat.le_of_ble_eq_true rfl, t126, rfl, pd_Z, rfl, rfl⟩
theorem lX12_261 : zFl RX12 261 12 19 0 .boolean false := ⟨(RX12, TX12, 26), rfl, Nat.le_of_ble_eq_true rfl, t127, rfl, pd_Z, rfl, rfl⟩
theorem lX12_264 : zFl RX12 264 12 17 0 .int false := ⟨(RX12, TX12, 26), rfl, Nat.le_of_ble_eq_true rfl, t128, rfl, pd_I, rfl, rfl⟩
theorem vX12_267 : zVc RX12 267 KX12_asks 4 12 := ⟨gX12_asks, rfl, ⟨t129, t130, t131⟩, (RX12, TX12, 26), rfl, rfl⟩
theorem vX12_271 : zSc RX12 271 KX12_lesser 2 := ⟨gX12_lesser, rfl, t133, t132⟩
theorem vX12_274 : zSc RX12 274 KX12_greater 2 := ⟨gX12_greater, rfl, t135, t134⟩
theorem vX12_277 : zVc RX12 277 KX12_lapsesIn 3 12 := ⟨gX12_lapsesIn, rfl, ⟨t136, t137, t138⟩, (RX12, TX12, 26), rfl, rfl⟩
theorem vX12_280 : zVc RX12 280 KX12_outs 0 12 := ⟨gX12_outs, rfl, ⟨t139, t140, t141⟩, (RX12, TX12, 26), rfl, rfl⟩
theorem vX12_283 : zSc RX12 283 KX12_bits 1 := ⟨gX12_bits, rfl, t143, t142⟩
theorem vX12_286 : zVc RX12 286 KX12_feltBy 4 12 := ⟨gX12_feltBy, rfl, ⟨t144, t145, t146⟩, (RX12, TX12, 26), rfl, rfl⟩
theorem vX12_290 : zSc RX12 290 KX12_isOf 2 := ⟨gX12_isOf, rfl, t148, t147⟩
theorem vX12_294 : zVc RX12 294 KX12_goesIn 3 12 := ⟨gX12_goesIn, rfl, ⟨t149, t150, t151⟩, (RX12, TX12, 26), rfl, rfl⟩
theorem kX12_298 : Cond.constant RX12 298 (Int32.ofInt 1103515245) ∈ zTg := t152
theorem vX12_299 : zVc RX12 299 KX12_weights 1 12 := ⟨gX12_weights, rfl, ⟨t153, t154, t155⟩, (RX12, TX12, 26), rfl, rfl⟩
theorem vX12_302 : zVc RX12 302 KX12_draw 1 12 := ⟨gX12_draw, rfl, ⟨t156, t157, t158⟩, (RX12, TX12, 26), rfl, rfl⟩
theorem lX12_305 : zFl RX12 305 12 25 0 .int false := ⟨(RX12, TX12, 26), rfl, Nat.le_of_ble_eq_true rfl, t159, rfl, pd_I, rfl, rfl⟩
theorem vX12_308 : zVc RX12 308 KX12_waits 1 12 := ⟨gX12_waits, rfl, ⟨t160, t161, t162⟩, (RX12, TX12, 26), rfl, rfl⟩
theorem vX12_311 : zVc RX12 311 KX12_logs 1 12 := ⟨gX12_logs, rfl, ⟨t163, t164, t165⟩, (RX12, TX12, 26), rfl, rfl⟩
theorem vX12_314 : zVc RX12 314 KX12_passes 0 12 := ⟨gX12_passes, rfl, ⟨t166, t167, t168⟩, (RX12, TX12, 26), rfl, rfl⟩
theorem vX12_317 : zVc RX12 317 KX12_isMember 1 12 := ⟨gX12_isMember, rfl, ⟨t169, t170, t171⟩, (RX12, TX12, 26), rfl, rfl⟩
theorem vX12_320 : zVc RX12 320 KX12_isFor 1 12 := ⟨gX12_isFor, rfl, ⟨t172, t173, t174⟩, (RX12, TX12, 26), rfl, rfl⟩
theorem vX12_323 : zVc RX12 323 KX12_seatsOut 0 12 := ⟨gX12_seatsOut, rfl, ⟨t175, t176, t177⟩, (RX12, TX12, 26), rfl, rfl⟩
theorem vX12_326 : zVc RX12 326 KX12_isMotion 1 12 := ⟨gX12_isMotion, rfl, ⟨t178, t179, t180⟩, (RX12, TX12, 26), rfl, rfl⟩
theorem vX12_329 : zSc RX12 329 KX12_isSky 1 := ⟨gX12_isSky, rfl, t182, t181⟩
theorem vX12_332 : zSc RX12 332 KX12_isHour 1 := ⟨gX12_isHour, rfl, t184, t183⟩
theorem vX12_335 : zVc RX12 335 KX12_remembers 0 12 := ⟨gX12_remembers, rfl, ⟨t185, t186, t187⟩, (RX12, TX12, 26), rfl, rfl⟩
theorem vX12_338 : zVc RX12 338 KX12_passesOn 1 12 := ⟨gX12_passesOn, rfl, ⟨t188, t189, t190⟩, (RX12, TX12, 26), rfl, rfl⟩
theorem vX12_341 : zVc RX12 341 KX12_sets 2 12 := ⟨gX12_sets, rfl, ⟨t191, t192, t193⟩, (RX12, TX12, 26), rfl, rfl⟩
theorem vX12_344 : zVc RX12 344 KX12_changes 3 12 := ⟨gX12_changes, rfl, ⟨t194, t195, t196⟩, (RX12, TX12, 26), rfl, rfl⟩
theorem vX12_348 : zVc RX12 348 KX12_chancesBegin 0 12 := ⟨gX12_chancesBegin, rfl, ⟨t197, t198, t199⟩, (RX12, TX12, 26), rfl, rfl⟩
theorem vX12_351 : zVc RX12 351 KX12_chancesGo 0 12 := ⟨gX12_chancesGo, rfl, ⟨t200, t201, t202⟩, (RX12, TX12, 26), rfl, rfl⟩
theorem vX12_354 : zVc RX12 354 KX12_chancesIn 1 12 := ⟨gX12_chancesIn, rfl, ⟨t203, t204, t205⟩, (RX12, TX12, 26), rfl, rfl⟩
theorem vX12_357 : zVc RX12 357 KX12_carriesIn 2 12 := ⟨gX12_carriesIn, rfl, ⟨t206, t207, t208⟩, (RX12, TX12, 26), rfl, rfl⟩
theorem kX12_360 : Cond.constant RX12 360 (Int32.ofInt 2000000000) ∈ zTg := t209
theorem vX12_361 : zVc RX12 361 KX12_bringsIn 2 12 := ⟨gX12_bringsIn, rfl, ⟨t210, t211, t212⟩, (RX12, TX12, 26), rfl, rfl⟩
theorem vX12_364 : zVc RX12 364 KX12_papers 0 12 := ⟨gX12_papers, rfl, ⟨t213, t214, t215⟩, (RX12, TX12, 26), rfl, rfl⟩
theorem vX12_367 : zVc RX12 367 KX12_goesWet 1 12 := ⟨gX12_goesWet, rfl, ⟨t216, t217, t218⟩, (RX12, TX12, 26), rfl, rfl⟩
theorem vX12_370 : zVc RX12 370 KX12_worthOf 1 12 := ⟨gX12_worthOf, rfl, ⟨t219, t220, t221⟩, (RX12, TX12, 26), rfl, rfl⟩
theorem vX12_373 : zVc RX12 373 KX12_isHastier 2 12 := ⟨gX12_isHastier, rfl, ⟨t222, t223, t224⟩, (RX12, TX12, 26), rfl, rfl⟩
theorem vX12_376 : zVc RX12 376 KX12_isWet 2 12 := ⟨gX12_isWet, rfl, ⟨t225, t226, t227⟩, (RX12, TX12, 26), rfl, rfl⟩
theorem vX12_379 : zVc RX12 379 KX12_fitsCuffs 3 12 := ⟨gX12_fitsCuffs, rfl, ⟨t228, t229, t230⟩, (RX12, TX12, 26), rfl, rfl⟩
theorem vX12_382 : zVc RX12 382 KX12_areCuffs 1 12 := ⟨gX12_areCuffs, rfl, ⟨t231, t232, t233⟩, (RX12, TX12, 26), rfl, rfl⟩
theorem vX12_385 : zVc RX12 385 KX12_rows 2 12 := ⟨gX12_rows, rfl, ⟨t234, t235, t236⟩, (RX12, TX12, 26), rfl, rfl⟩
theorem vX12_389 : zVc RX12 389 KX12_heard 0 12 := ⟨gX12_heard, rfl, ⟨t237, t238, t239⟩, (RX12, TX12, 26), rfl, rfl⟩
theorem vX12_392 : zVc RX12 392 KX12_skiesNow 0 12 := ⟨gX12_skiesNow, rfl, ⟨t240, t241, t242⟩, (RX12, TX12, 26), rfl, rfl⟩
theorem vX12_395 : zVc RX12 395 KX12_waysOfAll 0 12 := ⟨gX12_waysOfAll, rfl, ⟨t243, t244, t245⟩, (RX12, TX12, 26), rfl, rfl⟩
theorem kX12_399 : Cond.constantLong RX12 399 (Int64.ofInt 9999) ∈ zTg := t246
theorem vX12_401 : zVc RX12 401 KX12_seenBy 1 12 := ⟨gX12_seenBy, rfl, ⟨t247, t248, t249⟩, (RX12, TX12, 26), rfl, rfl⟩
theorem vX12_404 : zVc RX12 404 KX12_postsOf 0 12 := ⟨gX12_postsOf, rfl, ⟨t250, t251, t252⟩, (RX12, TX12, 26), rfl, rfl⟩
theorem vX12_407 : zVc RX12 407 KX12_votesOf 1 12 := ⟨gX12_votesOf, rfl, ⟨t253, t254, t255⟩, (RX12, TX12, 26), rfl, rfl⟩
theorem vX12_410 : zVc RX12 410 KX12_voters 0 12 := ⟨gX12_voters, rfl, ⟨t256, t257, t258⟩, (RX12, TX12, 26), rfl, rfl⟩
theorem vX12_413 : zVc RX12 413 KX12_winsBy 1 12 := ⟨gX12_winsBy, rfl, ⟨t259, t260, t261⟩, (RX12, TX12, 26), rfl, rfl⟩
theorem vX12_416 : zVc RX12 416 KX12_swingsBy 2 12 := ⟨gX12_swingsBy, rfl, ⟨t262, t263, t264⟩, (RX12, TX12, 26), rfl, rfl⟩
theorem vX12_419 : zVc RX12 419 KX12_isVoter 1 12 := ⟨gX12_isVoter, rfl, ⟨t265, t266, t267⟩, (RX12, TX12, 26), rfl, rfl⟩
theorem vX12_422 : zVc RX12 422 KX12_swingsOf 1 12 := ⟨gX12_swingsOf, rfl, ⟨t268, t269, t270⟩, (RX12, TX12, 26), rfl, rfl⟩
theorem vX12_425 : zVc RX12 425 KX12_isLeast 1 12 := ⟨gX12_isLeast, rfl, ⟨t271, t272, t273⟩, (RX12, TX12, 26), rfl, rfl⟩
theorem vX12_428 : zVc RX12 428 KX12_goesWetBy 2 12 := ⟨gX12_goesWetBy, rfl, ⟨t274, t275, t276⟩, (RX12, TX12, 26), rfl, rfl⟩
theorem vX12_431 : zVc RX12 431 KX12_parts 3 12 := ⟨gX12_parts, rfl, ⟨t277, t278, t279⟩, (RX12, TX12, 26), rfl, rfl⟩
theorem vX12_434 : zVc RX12 434 KX12_likeOf 2 12 := ⟨gX12_likeOf, rfl, ⟨t280, t281, t282⟩, (RX12, TX12, 26), rfl, rfl⟩
theorem vX12_437 : zVc RX12 437 KX12_dryOf 1 12 := ⟨gX12_dryOf, rfl, ⟨t283, t284, t285⟩, (RX12, TX12, 26), rfl, rfl⟩
theorem vX12_440 : zVc RX12 440 KX12_movedHas 2 12 := ⟨gX12_movedHas, rfl, ⟨t286, t287, t288⟩, (RX12, TX12, 26), rfl, rfl⟩
theorem vX12_444 : zVc RX12 444 KX12_moverHas 3 12 := ⟨gX12_moverHas, rfl, ⟨t289, t290, t291⟩, (RX12, TX12, 26), rfl, rfl⟩
theorem vX12_447 : zVc RX12 447 KX12_othersHave 3 12 := ⟨gX12_othersHave, rfl, ⟨t292, t293, t294⟩, (RX12, TX12, 26), rfl, rfl⟩
theorem vX12_450 : zVc RX12 450 KX12_inState 1 12 := ⟨gX12_inState, rfl, ⟨t295, t296, t297⟩, (RX12, TX12, 26), rfl, rfl⟩
theorem vX12_453 : zVc RX12 453 KX12_logged 2 12 := ⟨gX12_logged, rfl, ⟨t298, t299, t300⟩, (RX12, TX12, 26), rfl, rfl⟩
theorem lX12_456 : zFl RX12 456 12 3 0 .boolean false := ⟨(RX12, TX12, 26), rfl, Nat.le_of_ble_eq_true rfl, t301, rfl, pd_Z, rfl, rfl⟩
