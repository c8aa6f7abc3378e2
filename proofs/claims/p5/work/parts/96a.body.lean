/-! The law's cases. -/
theorem z_qL_0 : zm_chkP z_TYs z_PH z_cl z_FT z_MT z_sL z_PS room_1 4 600000 7302250 code z_eL z_hd 18 z_cL_0 = true := by decide +kernel
theorem z_qL_1 : zm_chkP z_TYs z_PH z_cl z_FT z_MT z_sL z_PS room_1 4 600000 7302250 code z_eL z_hd 18 z_cL_1 = true := by decide +kernel
theorem z_qL_2 : zm_chkP z_TYs z_PH z_cl z_FT z_MT z_sL z_PS room_1 4 600000 7302250 code z_eL z_hd 18 z_cL_2 = true := by decide +kernel
theorem z_qL_3 : zm_chkP z_TYs z_PH z_cl z_FT z_MT z_sL z_PS room_1 4 600000 7302250 code z_eL z_hd 18 z_cL_3 = true := by decide +kernel
theorem z_qL_4 : zm_chkP z_TYs z_PH z_cl z_FT z_MT z_sL z_PS room_1 4 600000 7302250 code z_eL z_hd 18 z_cL_4 = true := by decide +kernel
theorem z_qL_5 : zm_chkP z_TYs z_PH z_cl z_FT z_MT z_sL z_PS room_1 4 600000 7302250 code z_eL z_hd 18 z_cL_5 = true := by decide +kernel
theorem z_qL_6 : zm_chkP z_TYs z_PH z_cl z_FT z_MT z_sL z_PS room_1 4 600000 7302250 code z_eL z_hd 18 z_cL_6 = true := by decide +kernel
theorem z_qL_7 : zm_chkP z_TYs z_PH z_cl z_FT z_MT z_sL z_PS room_1 4 600000 7302250 code z_eL z_hd 18 z_cL_7 = true := by decide +kernel
theorem z_qL_8 : zm_chkP z_TYs z_PH z_cl z_FT z_MT z_sL z_PS room_1 4 600000 7302250 code z_eL z_hd 18 z_cL_8 = true := by decide +kernel
theorem z_qL_9 : zm_chkP z_TYs z_PH z_cl z_FT z_MT z_sL z_PS room_1 4 600000 7302250 code z_eL z_hd 18 z_cL_9 = true := by decide +kernel
theorem z_qL_10 : zm_chkP z_TYs z_PH z_cl z_FT z_MT z_sL z_PS room_1 4 600000 7302250 code z_eL z_hd 18 z_cL_10 = true := by decide +kernel
theorem z_qL_11 : zm_chkP z_TYs z_PH z_cl z_FT z_MT z_sL z_PS room_1 4 600000 7302250 code z_eL z_hd 18 z_cL_11 = true := by decide +kernel
theorem z_qL_12 : zm_chkP z_TYs z_PH z_cl z_FT z_MT z_sL z_PS room_1 4 600000 7302250 code z_eL z_hd 18 z_cL_12 = true := by decide +kernel
theorem z_qL_13 : zm_chkP z_TYs z_PH z_cl z_FT z_MT z_sL z_PS room_1 4 600000 7302250 code z_eL z_hd 18 z_cL_13 = true := by decide +kernel
