set_option maxRecDepth 100000 in
theorem k162 : Cond.code yL_isStep cL_isStep 11 (some .boolean) ∈ gT := gT_i 229 rfl rfl
set_option maxRecDepth 100000 in
theorem k310 : Cond.code yL_isRead cL_isRead 12 (some .boolean) ∈ gT := gT_i 381 rfl rfl
set_option maxRecDepth 100000 in
theorem k361 : Cond.code yL_areAlike cL_areAlike 7 (some .boolean) ∈ gT := gT_i 432 rfl rfl
set_option maxRecDepth 100000 in
theorem k391 : Cond.code yL_isWell cL_isWell 9 (some .boolean) ∈ gT := gT_i 463 rfl rfl
