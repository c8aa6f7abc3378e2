/-! The law's cases. -/
theorem z_qL_28 : zm_chkP z_TYs z_PH z_cl z_FT z_MT z_sL z_PS room_1 4 600000 7302250 code z_eL z_hd 18 z_cL_28 = true := by decide +kernel
theorem z_qL_29 : zm_chkP z_TYs z_PH z_cl z_FT z_MT z_sL z_PS room_1 4 600000 7302250 code z_eL z_hd 18 z_cL_29 = true := by decide +kernel
theorem z_qL_30 : zm_chkP z_TYs z_PH z_cl z_FT z_MT z_sL z_PS room_1 4 600000 7302250 code z_eL z_hd 18 z_cL_30 = true := by decide +kernel
theorem z_qL_31 : zm_chkP z_TYs z_PH z_cl z_FT z_MT z_sL z_PS room_1 4 600000 7302250 code z_eL z_hd 18 z_cL_31 = true := by decide +kernel
theorem z_qL_32 : zm_chkP z_TYs z_PH z_cl z_FT z_MT z_sL z_PS room_1 4 600000 7302250 code z_eL z_hd 18 z_cL_32 = true := by decide +kernel
theorem z_qL_33 : zm_chkP z_TYs z_PH z_cl z_FT z_MT z_sL z_PS room_1 4 600000 7302250 code z_eL z_hd 18 z_cL_33 = true := by decide +kernel
theorem z_qL_34 : zm_chkP z_TYs z_PH z_cl z_FT z_MT z_sL z_PS room_1 4 600000 7302250 code z_eL z_hd 18 z_cL_34 = true := by decide +kernel
theorem z_qL_35 : zm_chkP z_TYs z_PH z_cl z_FT z_MT z_sL z_PS room_1 4 600000 7302250 code z_eL z_hd 18 z_cL_35 = true := by decide +kernel
theorem z_qL_36 : zm_chkP z_TYs z_PH z_cl z_FT z_MT z_sL z_PS room_1 4 600000 7302250 code z_eL z_hd 18 z_cL_36 = true := by decide +kernel
theorem z_qL_37 : zm_chkP z_TYs z_PH z_cl z_FT z_MT z_sL z_PS room_1 4 600000 7302250 code z_eL z_hd 18 z_cL_37 = true := by decide +kernel
theorem z_qL_38 : zm_chkP z_TYs z_PH z_cl z_FT z_MT z_sL z_PS room_1 4 600000 7302250 code z_eL z_hd 18 z_cL_38 = true := by decide +kernel
