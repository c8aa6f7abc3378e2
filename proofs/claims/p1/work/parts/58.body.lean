/-! The law. -/
theorem z_nL_9 : zl_chkN z_TYs z_PH z_cl z_FT z_MT z_sL z_PS room_1 4 600000 7302250 code z_eL z_dL_9 23 1 = true := by decide +kernel
theorem z_iL_9_0 : zl_chkI z_TYs z_PH z_cl z_FT z_MT z_sL z_PS room_1 4 600000 7302250 code z_eL z_dL_9 23 0 1 = true := by decide +kernel
theorem z_qL_9 : zl_chkP z_TYs z_PH z_cl z_FT z_MT z_sL z_PS room_1 4 600000 7302250 code z_eL z_cL_9 = true := zl_chk1 (N := 1) (Nat.le_of_ble_eq_true rfl) z_nL_9 (zl_from_cons z_iL_9_0 (zl_from_end z_nL_9))
theorem z_nL_10 : zl_chkN z_TYs z_PH z_cl z_FT z_MT z_sL z_PS room_1 4 600000 7302250 code z_eL z_dL_10 23 5 = true := by decide +kernel
theorem z_iL_10_0 : zl_chkI z_TYs z_PH z_cl z_FT z_MT z_sL z_PS room_1 4 600000 7302250 code z_eL z_dL_10 23 0 1 = true := by decide +kernel
theorem z_iL_10_1 : zl_chkI z_TYs z_PH z_cl z_FT z_MT z_sL z_PS room_1 4 600000 7302250 code z_eL z_dL_10 23 1 1 = true := by decide +kernel
theorem z_iL_10_2 : zl_chkI z_TYs z_PH z_cl z_FT z_MT z_sL z_PS room_1 4 600000 7302250 code z_eL z_dL_10 23 2 1 = true := by decide +kernel
theorem z_iL_10_3 : zl_chkI z_TYs z_PH z_cl z_FT z_MT z_sL z_PS room_1 4 600000 7302250 code z_eL z_dL_10 23 3 1 = true := by decide +kernel
theorem z_iL_10_4 : zl_chkI z_TYs z_PH z_cl z_FT z_MT z_sL z_PS room_1 4 600000 7302250 code z_eL z_dL_10 23 4 1 = true := by decide +kernel
theorem z_qL_10 : zl_chkP z_TYs z_PH z_cl z_FT z_MT z_sL z_PS room_1 4 600000 7302250 code z_eL z_cL_10 = true := zl_chk1 (N := 5) (Nat.le_of_ble_eq_true rfl) z_nL_10 (zl_from_cons z_iL_10_0 (zl_from_cons z_iL_10_1 (zl_from_cons z_iL_10_2 (zl_from_cons z_iL_10_3 (zl_from_cons z_iL_10_4 (zl_from_end z_nL_10))))))
theorem z_nL_11 : zl_chkN z_TYs z_PH z_cl z_FT z_MT z_sL z_PS room_1 4 600000 7302250 code z_eL z_dL_11 23 5 = true := by decide +kernel
theorem z_iL_11_0 : zl_chkI z_TYs z_PH z_cl z_FT z_MT z_sL z_PS room_1 4 600000 7302250 code z_eL z_dL_11 23 0 1 = true := by decide +kernel
theorem z_iL_11_1 : zl_chkI z_TYs z_PH z_cl z_FT z_MT z_sL z_PS room_1 4 600000 7302250 code z_eL z_dL_11 23 1 1 = true := by decide +kernel
theorem z_iL_11_2 : zl_chkI z_TYs z_PH z_cl z_FT z_MT z_sL z_PS room_1 4 600000 7302250 code z_eL z_dL_11 23 2 1 = true := by decide +kernel
theorem z_iL_11_3 : zl_chkI z_TYs z_PH z_cl z_FT z_MT z_sL z_PS room_1 4 600000 7302250 code z_eL z_dL_11 23 3 1 = true := by decide +kernel
theorem z_iL_11_4 : zl_chkI z_TYs z_PH z_cl z_FT z_MT z_sL z_PS room_1 4 600000 7302250 code z_eL z_dL_11 23 4 1 = true := by decide +kernel
theorem z_qL_11 : zl_chkP z_TYs z_PH z_cl z_FT z_MT z_sL z_PS room_1 4 600000 7302250 code z_eL z_cL_11 = true := zl_chk1 (N := 5) (Nat.le_of_ble_eq_true rfl) z_nL_11 (zl_from_cons z_iL_11_0 (zl_from_cons z_iL_11_1 (zl_from_cons z_iL_11_2 (zl_from_cons z_iL_11_3 (zl_from_cons z_iL_11_4 (zl_from_end z_nL_11))))))
theorem z_nL_12 : zl_chkN z_TYs z_PH z_cl z_FT z_MT z_sL z_PS room_1 4 600000 7302250 code z_eL z_dL_12 13 3 = true := by decide +kernel
theorem z_iL_12_0 : zl_chkI z_TYs z_PH z_cl z_FT z_MT z_sL z_PS room_1 4 600000 7302250 code z_eL z_dL_12 13 0 1 = true := by decide +kernel
theorem z_iL_12_1 : zl_chkI z_TYs z_PH z_cl z_FT z_MT z_sL z_PS room_1 4 600000 7302250 code z_eL z_dL_12 13 1 1 = true := by decide +kernel
theorem z_iL_12_2 : zl_chkI z_TYs z_PH z_cl z_FT z_MT z_sL z_PS room_1 4 600000 7302250 code z_eL z_dL_12 13 2 1 = true := by decide +kernel
theorem z_qL_12 : zl_chkP z_TYs z_PH z_cl z_FT z_MT z_sL z_PS room_1 4 600000 7302250 code z_eL z_cL_12 = true := zl_chk1 (N := 3) (Nat.le_of_ble_eq_true rfl) z_nL_12 (zl_from_cons z_iL_12_0 (zl_from_cons z_iL_12_1 (zl_from_cons z_iL_12_2 (zl_from_end z_nL_12))))
