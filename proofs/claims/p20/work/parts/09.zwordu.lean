set_option maxRecDepth 100000 in
theorem zw_84 : Cond.code yL_drawn cL_drawn 2 (some .int) ∈ zW := zW_of 110 rfl rfl
set_option maxRecDepth 100000 in
theorem zw_825 : Cond.code yL_act cL_act 5 (some .int) ∈ zW := zW_of 851 rfl rfl
set_option maxRecDepth 100000 in
theorem zw_89 : Cond.code yL_refuses cL_refuses 10 (some .boolean) ∈ zW := zW_of 115 rfl rfl
set_option maxRecDepth 100000 in
theorem zw_832 : Cond.code yL_isAlike cL_isAlike 8 (some .boolean) ∈ zW := zW_of 858 rfl rfl
set_option maxRecDepth 100000 in
theorem zw_835 : Cond.code yL_isWhole cL_isWhole 10 (some .boolean) ∈ zW := zW_of 861 rfl rfl
