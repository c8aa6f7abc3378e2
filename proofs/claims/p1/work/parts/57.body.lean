/-! The law. -/
theorem z_qL_14 : zl_chkP z_TYs z_PH z_cl z_FT z_MT z_sL z_PS room_1 4 600000 7302250 code z_eL z_cL_14 = true := by decide +kernel
theorem z_qL_15 : zl_chkP z_TYs z_PH z_cl z_FT z_MT z_sL z_PS room_1 4 600000 7302250 code z_eL z_cL_15 = true := by decide +kernel
theorem z_qL_16 : zl_chkP z_TYs z_PH z_cl z_FT z_MT z_sL z_PS room_1 4 600000 7302250 code z_eL z_cL_16 = true := by decide +kernel
theorem z_qL_17 : zl_chkP z_TYs z_PH z_cl z_FT z_MT z_sL z_PS room_1 4 600000 7302250 code z_eL z_cL_17 = true := by decide +kernel
theorem z_qL_18 : zl_chkP z_TYs z_PH z_cl z_FT z_MT z_sL z_PS room_1 4 600000 7302250 code z_eL z_cL_18 = true := by decide +kernel
theorem z_qL_19 : zl_chkP z_TYs z_PH z_cl z_FT z_MT z_sL z_PS room_1 4 600000 7302250 code z_eL z_cL_19 = true := by decide +kernel
theorem z_qL_20 : zl_chkP z_TYs z_PH z_cl z_FT z_MT z_sL z_PS room_1 4 600000 7302250 code z_eL z_cL_20 = true := by decide +kernel
theorem z_qL_21 : zl_chkP z_TYs z_PH z_cl z_FT z_MT z_sL z_PS room_1 4 600000 7302250 code z_eL z_cL_21 = true := by decide +kernel
