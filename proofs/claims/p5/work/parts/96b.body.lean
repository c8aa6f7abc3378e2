/-! The law's cases. -/
theorem z_qL_14 : zm_chkP z_TYs z_PH z_cl z_FT z_MT z_sL z_PS room_1 4 600000 7302250 code z_eL z_hd 18 z_cL_14 = true := by decide +kernel
theorem z_qL_15 : zm_chkP z_TYs z_PH z_cl z_FT z_MT z_sL z_PS room_1 4 600000 7302250 code z_eL z_hd 18 z_cL_15 = true := by decide +kernel
theorem z_qL_16 : zm_chkP z_TYs z_PH z_cl z_FT z_MT z_sL z_PS room_1 4 600000 7302250 code z_eL z_hd 18 z_cL_16 = true := by decide +kernel
theorem z_qL_17 : zm_chkP z_TYs z_PH z_cl z_FT z_MT z_sL z_PS room_1 4 600000 7302250 code z_eL z_hd 18 z_cL_17 = true := by decide +kernel
theorem z_qL_18 : zm_chkP z_TYs z_PH z_cl z_FT z_MT z_sL z_PS room_1 4 600000 7302250 code z_eL z_hd 18 z_cL_18 = true := by decide +kernel
theorem z_qL_19 : zm_chkP z_TYs z_PH z_cl z_FT z_MT z_sL z_PS room_1 4 600000 7302250 code z_eL z_hd 18 z_cL_19 = true := by decide +kernel
theorem z_qL_20 : zm_chkP z_TYs z_PH z_cl z_FT z_MT z_sL z_PS room_1 4 600000 7302250 code z_eL z_hd 18 z_cL_20 = true := by decide +kernel
theorem z_qL_21 : zm_chkP z_TYs z_PH z_cl z_FT z_MT z_sL z_PS room_1 4 600000 7302250 code z_eL z_hd 18 z_cL_21 = true := by decide +kernel
theorem z_qL_22 : zm_chkP z_TYs z_PH z_cl z_FT z_MT z_sL z_PS room_1 4 600000 7302250 code z_eL z_hd 18 z_cL_22 = true := by decide +kernel
theorem z_qL_23 : zm_chkP z_TYs z_PH z_cl z_FT z_MT z_sL z_PS room_1 4 600000 7302250 code z_eL z_hd 18 z_cL_23 = true := by decide +kernel
theorem z_qL_24 : zm_chkP z_TYs z_PH z_cl z_FT z_MT z_sL z_PS room_1 4 600000 7302250 code z_eL z_hd 18 z_cL_24 = true := by decide +kernel
theorem z_qL_25 : zm_chkP z_TYs z_PH z_cl z_FT z_MT z_sL z_PS room_1 4 600000 7302250 code z_eL z_hd 18 z_cL_25 = true := by decide +kernel
theorem z_qL_26 : zm_chkP z_TYs z_PH z_cl z_FT z_MT z_sL z_PS room_1 4 600000 7302250 code z_eL z_hd 18 z_cL_26 = true := by decide +kernel
theorem z_qL_27 : zm_chkP z_TYs z_PH z_cl z_FT z_MT z_sL z_PS room_1 4 600000 7302250 code z_eL z_hd 18 z_cL_27 = true := by decide +kernel
