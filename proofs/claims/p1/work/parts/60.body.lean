/-! The law. -/
theorem z_nL_18 : zl_chkN z_TYs z_PH z_cl z_FT z_MT z_sL z_PS room_1 4 600000 7302250 code z_eL z_dL_18 33 1 = true := by decide +kernel
theorem z_iL_18_0 : zl_chkI z_TYs z_PH z_cl z_FT z_MT z_sL z_PS room_1 4 600000 7302250 code z_eL z_dL_18 33 0 1 = true := by decide +kernel
theorem z_qL_18 : zl_chkP z_TYs z_PH z_cl z_FT z_MT z_sL z_PS room_1 4 600000 7302250 code z_eL z_cL_18 = true := zl_chk1 (N := 1) (Nat.le_of_ble_eq_true rfl) z_nL_18 (zl_from_cons z_iL_18_0 (zl_from_end z_nL_18))
theorem z_qL_19 : zl_chkP z_TYs z_PH z_cl z_FT z_MT z_sL z_PS room_1 4 600000 7302250 code z_eL z_cL_19 = true := by decide +kernel
theorem z_nL_20 : zl_chkN z_TYs z_PH z_cl z_FT z_MT z_sL z_PS room_1 4 600000 7302250 code z_eL z_dL_20 13 3 = true := by decide +kernel
theorem z_iL_20_0 : zl_chkI z_TYs z_PH z_cl z_FT z_MT z_sL z_PS room_1 4 600000 7302250 code z_eL z_dL_20 13 0 1 = true := by decide +kernel
theorem z_iL_20_1 : zl_chkI z_TYs z_PH z_cl z_FT z_MT z_sL z_PS room_1 4 600000 7302250 code z_eL z_dL_20 13 1 1 = true := by decide +kernel
theorem z_iL_20_2 : zl_chkI z_TYs z_PH z_cl z_FT z_MT z_sL z_PS room_1 4 600000 7302250 code z_eL z_dL_20 13 2 1 = true := by decide +kernel
theorem z_qL_20 : zl_chkP z_TYs z_PH z_cl z_FT z_MT z_sL z_PS room_1 4 600000 7302250 code z_eL z_cL_20 = true := zl_chk1 (N := 3) (Nat.le_of_ble_eq_true rfl) z_nL_20 (zl_from_cons z_iL_20_0 (zl_from_cons z_iL_20_1 (zl_from_cons z_iL_20_2 (zl_from_end z_nL_20))))
theorem z_nL_21 : zl_chkN z_TYs z_PH z_cl z_FT z_MT z_sL z_PS room_1 4 600000 7302250 code z_eL z_dL_21 13 3 = true := by decide +kernel
theorem z_iL_21_0 : zl_chkI z_TYs z_PH z_cl z_FT z_MT z_sL z_PS room_1 4 600000 7302250 code z_eL z_dL_21 13 0 1 = true := by decide +kernel
theorem z_iL_21_1 : zl_chkI z_TYs z_PH z_cl z_FT z_MT z_sL z_PS room_1 4 600000 7302250 code z_eL z_dL_21 13 1 1 = true := by decide +kernel
theorem z_iL_21_2 : zl_chkI z_TYs z_PH z_cl z_FT z_MT z_sL z_PS room_1 4 600000 7302250 code z_eL z_dL_21 13 2 1 = true := by decide +kernel
theorem z_qL_21 : zl_chkP z_TYs z_PH z_cl z_FT z_MT z_sL z_PS room_1 4 600000 7302250 code z_eL z_cL_21 = true := zl_chk1 (N := 3) (Nat.le_of_ble_eq_true rfl) z_nL_21 (zl_from_cons z_iL_21_0 (zl_from_cons z_iL_21_1 (zl_from_cons z_iL_21_2 (zl_from_end z_nL_21))))
theorem z_nL_22 : zl_chkN z_TYs z_PH z_cl z_FT z_MT z_sL z_PS room_1 4 600000 7302250 code z_eL z_dL_22 23 5 = true := by decide +kernel
theorem z_iL_22_0 : zl_chkI z_TYs z_PH z_cl z_FT z_MT z_sL z_PS room_1 4 600000 7302250 code z_eL z_dL_22 23 0 1 = true := by decide +kernel
theorem z_iL_22_1 : zl_chkI z_TYs z_PH z_cl z_FT z_MT z_sL z_PS room_1 4 600000 7302250 code z_eL z_dL_22 23 1 1 = true := by decide +kernel
theorem z_iL_22_2 : zl_chkI z_TYs z_PH z_cl z_FT z_MT z_sL z_PS room_1 4 600000 7302250 code z_eL z_dL_22 23 2 1 = true := by decide +kernel
theorem z_iL_22_3 : zl_chkI z_TYs z_PH z_cl z_FT z_MT z_sL z_PS room_1 4 600000 7302250 code z_eL z_dL_22 23 3 1 = true := by decide +kernel
theorem z_iL_22_4 : zl_chkI z_TYs z_PH z_cl z_FT z_MT z_sL z_PS room_1 4 600000 7302250 code z_eL z_dL_22 23 4 1 = true := by decide +kernel
theorem z_qL_22 : zl_chkP z_TYs z_PH z_cl z_FT z_MT z_sL z_PS room_1 4 600000 7302250 code z_eL z_cL_22 = true := zl_chk1 (N := 5) (Nat.le_of_ble_eq_true rfl) z_nL_22 (zl_from_cons z_iL_22_0 (zl_from_cons z_iL_22_1 (zl_from_cons z_iL_22_2 (zl_from_cons z_iL_22_3 (zl_from_cons z_iL_22_4 (zl_from_end z_nL_22))))))
