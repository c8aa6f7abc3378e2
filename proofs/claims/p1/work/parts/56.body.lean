/-! The law. -/
theorem z_nL_0 : zl_chkN z_TYs z_PH z_cl z_FT z_MT z_sL z_PS room_1 4 600000 7302250 code z_eL z_dL_0 23 5 = true := by decide +kernel
theorem z_iL_0_0 : zl_chkI z_TYs z_PH z_cl z_FT z_MT z_sL z_PS room_1 4 600000 7302250 code z_eL z_dL_0 23 0 1 = true := by decide +kernel
theorem z_iL_0_1 : zl_chkI z_TYs z_PH z_cl z_FT z_MT z_sL z_PS room_1 4 600000 7302250 code z_eL z_dL_0 23 1 1 = true := by decide +kernel
theorem z_iL_0_2 : zl_chkI z_TYs z_PH z_cl z_FT z_MT z_sL z_PS room_1 4 600000 7302250 code z_eL z_dL_0 23 2 1 = true := by decide +kernel
theorem z_iL_0_3 : zl_chkI z_TYs z_PH z_cl z_FT z_MT z_sL z_PS room_1 4 600000 7302250 code z_eL z_dL_0 23 3 1 = true := by decide +kernel
theorem z_iL_0_4 : zl_chkI z_TYs z_PH z_cl z_FT z_MT z_sL z_PS room_1 4 600000 7302250 code z_eL z_dL_0 23 4 1 = true := by decide +kernel
theorem z_qL_0 : zl_chkP z_TYs z_PH z_cl z_FT z_MT z_sL z_PS room_1 4 600000 7302250 code z_eL z_cL_0 = true := zl_chk1 (N := 5) (Nat.le_of_ble_eq_true rfl) z_nL_0 (zl_from_cons z_iL_0_0 (zl_from_cons z_iL_0_1 (zl_from_cons z_iL_0_2 (zl_from_cons z_iL_0_3 (zl_from_cons z_iL_0_4 (zl_from_end z_nL_0))))))
theorem z_nL_1 : zl_chkN z_TYs z_PH z_cl z_FT z_MT z_sL z_PS room_1 4 600000 7302250 code z_eL z_dL_1 1 1 = true := by decide +kernel
theorem z_iL_1_0 : zl_chkI z_TYs z_PH z_cl z_FT z_MT z_sL z_PS room_1 4 600000 7302250 code z_eL z_dL_1 1 0 1 = true := by decide +kernel
theorem z_qL_1 : zl_chkP z_TYs z_PH z_cl z_FT z_MT z_sL z_PS room_1 4 600000 7302250 code z_eL z_cL_1 = true := zl_chk1 (N := 1) (Nat.le_of_ble_eq_true rfl) z_nL_1 (zl_from_cons z_iL_1_0 (zl_from_end z_nL_1))
theorem z_nL_2 : zl_chkN z_TYs z_PH z_cl z_FT z_MT z_sL z_PS room_1 4 600000 7302250 code z_eL z_dL_2 13 13 = true := by decide +kernel
theorem z_iL_2_0 : zl_chkI z_TYs z_PH z_cl z_FT z_MT z_sL z_PS room_1 4 600000 7302250 code z_eL z_dL_2 13 0 1 = true := by decide +kernel
theorem z_iL_2_1 : zl_chkI z_TYs z_PH z_cl z_FT z_MT z_sL z_PS room_1 4 600000 7302250 code z_eL z_dL_2 13 1 1 = true := by decide +kernel
theorem z_iL_2_2 : zl_chkI z_TYs z_PH z_cl z_FT z_MT z_sL z_PS room_1 4 600000 7302250 code z_eL z_dL_2 13 2 1 = true := by decide +kernel
theorem z_iL_2_3 : zl_chkI z_TYs z_PH z_cl z_FT z_MT z_sL z_PS room_1 4 600000 7302250 code z_eL z_dL_2 13 3 1 = true := by decide +kernel
theorem z_iL_2_4 : zl_chkI z_TYs z_PH z_cl z_FT z_MT z_sL z_PS room_1 4 600000 7302250 code z_eL z_dL_2 13 4 1 = true := by decide +kernel
theorem z_iL_2_5 : zl_chkI z_TYs z_PH z_cl z_FT z_MT z_sL z_PS room_1 4 600000 7302250 code z_eL z_dL_2 13 5 1 = true := by decide +kernel
theorem z_iL_2_6 : zl_chkI z_TYs z_PH z_cl z_FT z_MT z_sL z_PS room_1 4 600000 7302250 code z_eL z_dL_2 13 6 1 = true := by decide +kernel
theorem z_iL_2_7 : zl_chkI z_TYs z_PH z_cl z_FT z_MT z_sL z_PS room_1 4 600000 7302250 code z_eL z_dL_2 13 7 1 = true := by decide +kernel
theorem z_iL_2_8 : zl_chkI z_TYs z_PH z_cl z_FT z_MT z_sL z_PS room_1 4 600000 7302250 code z_eL z_dL_2 13 8 1 = true := by decide +kernel
theorem z_iL_2_9 : zl_chkI z_TYs z_PH z_cl z_FT z_MT z_sL z_PS room_1 4 600000 7302250 code z_eL z_dL_2 13 9 1 = true := by decide +kernel
theorem z_iL_2_10 : zl_chkI z_TYs z_PH z_cl z_FT z_MT z_sL z_PS room_1 4 600000 7302250 code z_eL z_dL_2 13 10 1 = true := by decide +kernel
theorem z_iL_2_11 : zl_chkI z_TYs z_PH z_cl z_FT z_MT z_sL z_PS room_1 4 600000 7302250 code z_eL z_dL_2 13 11 1 = true := by decide +kernel
theorem z_iL_2_12 : zl_chkI z_TYs z_PH z_cl z_FT z_MT z_sL z_PS room_1 4 600000 7302250 code z_eL z_dL_2 13 12 1 = true := by decide +kernel
theorem z_qL_2 : zl_chkP z_TYs z_PH z_cl z_FT z_MT z_sL z_PS room_1 4 600000 7302250 code z_eL z_cL_2 = true := zl_chk1 (N := 13) (Nat.le_of_ble_eq_true rfl) z_nL_2 (zl_from_cons z_iL_2_0 (zl_from_cons z_iL_2_1 (zl_from_cons z_iL_2_2 (zl_from_cons z_iL_2_3 (zl_from_cons z_iL_2_4 (zl_from_cons z_iL_2_5 (zl_from_cons z_iL_2_6 (zl_from_cons z_iL_2_7 (zl_from_cons z_iL_2_8 (zl_from_cons z_iL_2_9 (zl_from_cons z_iL_2_10 (zl_from_cons z_iL_2_11 (zl_from_cons z_iL_2_12 (zl_from_end z_nL_2))))))))))))))
