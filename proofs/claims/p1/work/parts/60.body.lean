/-! The law. -/
theorem z_qL_38 : zl_chkP z_TYs z_PH z_cl z_FT z_MT z_sL z_PS room_1 4 600000 7302250 code z_eL z_cL_38 = true := by decide +kernel
