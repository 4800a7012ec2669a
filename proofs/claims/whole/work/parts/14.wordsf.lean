section
set_option maxRecDepth 100000 in
theorem xw_850 : Cond.code yX11_isArc cX11_isArc 3 (some .boolean) ∈ lw_tbl := List.mem_of_getElem? (i := 1198) (by decide +kernel)
set_option maxRecDepth 100000 in
theorem xw_851 : Cond.code yX11_arc cX11_arc 5 (some .int) ∈ lw_tbl := List.mem_of_getElem? (i := 1194) (by decide +kernel)
set_option maxRecDepth 100000 in
theorem xw_852 : Cond.code yX11_spanOf cX11_spanOf 6 (some .int) ∈ lw_tbl := List.mem_of_getElem? (i := 1213) (by decide +kernel)
set_option maxRecDepth 100000 in
theorem xw_853 : Cond.code yX11_brought cX11_brought 4 (some .int) ∈ lw_tbl := List.mem_of_getElem? (i := 1210) (by decide +kernel)
set_option maxRecDepth 100000 in
theorem xw_854 : Cond.code yX11_mixed cX11_mixed 16 (some .long) ∈ lw_tbl := List.mem_of_getElem? (i := 1216) (by decide +kernel)
set_option maxRecDepth 100000 in
theorem xw_855 : Cond.code yX11_byLoad cX11_byLoad 8 (some .long) ∈ lw_tbl := List.mem_of_getElem? (i := 1207) (by decide +kernel)
set_option maxRecDepth 100000 in
theorem xw_856 : Cond.code yX11_delay cX11_delay 10 (some .int) ∈ lw_tbl := List.mem_of_getElem? (i := 1202) (by decide +kernel)
set_option maxRecDepth 100000 in
theorem xw_857 : Cond.code yX11_power cX11_power 3 (some .int) ∈ lw_tbl := List.mem_of_getElem? (i := 1220) (by decide +kernel)
set_option maxRecDepth 100000 in
theorem xw_858 : Cond.code yX11_fits cX11_fits 8 (some .boolean) ∈ lw_tbl := List.mem_of_getElem? (i := 1236) (by decide +kernel)
set_option maxRecDepth 100000 in
theorem xw_859 : Cond.code yX11_isOrder cX11_isOrder 4 (some .boolean) ∈ lw_tbl := List.mem_of_getElem? (i := 1232) (by decide +kernel)
set_option maxRecDepth 100000 in
theorem xw_860 : Cond.code yX11_find cX11_find 5 (some .boolean) ∈ lw_tbl := List.mem_of_getElem? (i := 1228) (by decide +kernel)
set_option maxRecDepth 100000 in
theorem xw_861 : Cond.code yX11_alike cX11_alike 3 (some .boolean) ∈ lw_tbl := List.mem_of_getElem? (i := 1224) (by decide +kernel)
set_option maxRecDepth 100000 in
theorem xw_862 : Cond.code yX11_order cX11_order 4 (some .int) ∈ lw_tbl := List.mem_of_getElem? (i := 1240) (by decide +kernel)
set_option maxRecDepth 100000 in
theorem xw_863 : Cond.code yX11_gather cX11_gather 5 (some .int) ∈ lw_tbl := List.mem_of_getElem? (i := 1248) (by decide +kernel)
set_option maxRecDepth 100000 in
theorem xw_864 : Cond.code yX11_isBefore cX11_isBefore 5 (some .boolean) ∈ lw_tbl := List.mem_of_getElem? (i := 1252) (by decide +kernel)
set_option maxRecDepth 100000 in
theorem xw_865 : Cond.code yX11_family cX11_family 3 (some .int) ∈ lw_tbl := List.mem_of_getElem? (i := 1244) (by decide +kernel)
set_option maxRecDepth 100000 in
theorem xw_866 : Cond.code yX11_best cX11_best 7 (some .int) ∈ lw_tbl := List.mem_of_getElem? (i := 1256) (by decide +kernel)
set_option maxRecDepth 100000 in
theorem xw_867 : Cond.code yX11_letter cX11_letter 8 (some .int) ∈ lw_tbl := List.mem_of_getElem? (i := 1260) (by decide +kernel)
set_option maxRecDepth 100000 in
theorem xw_868 : Cond.code yX11_count cX11_count 2 (some .int) ∈ lw_tbl := List.mem_of_getElem? (i := 1265) (by decide +kernel)
set_option maxRecDepth 100000 in
theorem xw_869 : Cond.codeWith yL_cell cL_cell 5 (some .int) [(0, 10, 13, 13)] ∈ lw_tbl := List.mem_of_getElem? (i := 703) (by decide +kernel)
set_option maxRecDepth 100000 in
theorem xw_870 : Cond.initialized RL ∈ lw_tbl := List.mem_of_getElem? (i := 60) (by decide +kernel)
set_option maxRecDepth 100000 in
theorem xw_871 : Cond.codeWith yL_truth cL_truth 5 (some .int) [(0, 9, 12, 13)] ∈ lw_tbl := List.mem_of_getElem? (i := 745) (by decide +kernel)
set_option maxRecDepth 100000 in
theorem xw_872 : Cond.codeWith yL_sense cL_sense 6 (some .int) [(0, 12, 15, 13)] ∈ lw_tbl := List.mem_of_getElem? (i := 752) (by decide +kernel)
set_option maxRecDepth 100000 in
theorem xw_873 : Cond.codeWith yL_arc cL_arc 6 (some .int) [(0, 12, 15, 13)] ∈ lw_tbl := List.mem_of_getElem? (i := 760) (by decide +kernel)
set_option maxRecDepth 100000 in
theorem xw_874 : Cond.codeWith yL_delay cL_delay 8 (some .int) [(0, 16, 19, 13), (0, 16, 23, 30)] ∈ lw_tbl := List.mem_of_getElem? (i := 769) (by decide +kernel)
set_option maxRecDepth 100000 in
theorem xw_875 : Cond.codeWith yL_power cL_power 5 (some .int) [(0, 10, 13, 13)] ∈ lw_tbl := List.mem_of_getElem? (i := 827) (by decide +kernel)
set_option maxRecDepth 100000 in
theorem xw_876 : Cond.codeWith yL_alike cL_alike 5 (some .int) [(0, 17, 20, 13)] ∈ lw_tbl := List.mem_of_getElem? (i := 835) (by decide +kernel)
set_option maxRecDepth 100000 in
theorem xw_877 : Cond.codeWith yL_order cL_order 6 (some .int) [(0, 12, 15, 13)] ∈ lw_tbl := List.mem_of_getElem? (i := 869) (by decide +kernel)
set_option maxRecDepth 100000 in
theorem xw_878 : Cond.codeWith yL_family cL_family 5 (some .int) [(0, 10, 13, 13)] ∈ lw_tbl := List.mem_of_getElem? (i := 876) (by decide +kernel)
set_option maxRecDepth 100000 in
theorem xw_879 : Cond.codeWith yL_best cL_best 5 (some .int) [(0, 10, 13, 13), (0, 10, 17, 30)] ∈ lw_tbl := List.mem_of_getElem? (i := 894) (by decide +kernel)
set_option maxRecDepth 100000 in
theorem xw_880 : Cond.codeWith yL_letter cL_letter 6 (some .int) [(0, 12, 15, 13)] ∈ lw_tbl := List.mem_of_getElem? (i := 901) (by decide +kernel)
set_option maxRecDepth 100000 in
theorem xw_881 : Cond.codeWith yL_count cL_count 4 (some .int) [(0, 9, 12, 13)] ∈ lw_tbl := List.mem_of_getElem? (i := 911) (by decide +kernel)
end
