/-! the one long code: compared as it stands -/
set_option maxRecDepth 100000 in
theorem ko_L_right : zOk kL_right 8 := ⟨zG_in 528 rfl rfl, zG_in 0 (by decide +kernel) rfl, by decide +kernel, by decide +kernel, by decide +kernel, by decide +kernel⟩
