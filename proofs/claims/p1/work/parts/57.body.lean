/-! The law. -/
theorem z_qL_3 : zl_chkP z_TYs z_PH z_cl z_FT z_MT z_sL z_PS room_1 4 600000 7302250 code z_eL z_cL_3 = true := by decide +kernel
theorem z_nL_4 : zl_chkN z_TYs z_PH z_cl z_FT z_MT z_sL z_PS room_1 4 600000 7302250 code z_eL z_dL_4 33 1 = true := by decide +kernel
theorem z_iL_4_0 : zl_chkI z_TYs z_PH z_cl z_FT z_MT z_sL z_PS room_1 4 600000 7302250 code z_eL z_dL_4 33 0 1 = true := by decide +kernel
theorem z_qL_4 : zl_chkP z_TYs z_PH z_cl z_FT z_MT z_sL z_PS room_1 4 600000 7302250 code z_eL z_cL_4 = true := zl_chk1 (N := 1) (Nat.le_of_ble_eq_true rfl) z_nL_4 (zl_from_cons z_iL_4_0 (zl_from_end z_nL_4))
theorem z_nL_5 : zl_chkN z_TYs z_PH z_cl z_FT z_MT z_sL z_PS room_1 4 600000 7302250 code z_eL z_dL_5 53 1 = true := by decide +kernel
theorem z_iL_5_0 : zl_chkI z_TYs z_PH z_cl z_FT z_MT z_sL z_PS room_1 4 600000 7302250 code z_eL z_dL_5 53 0 1 = true := by decide +kernel
theorem z_qL_5 : zl_chkP z_TYs z_PH z_cl z_FT z_MT z_sL z_PS room_1 4 600000 7302250 code z_eL z_cL_5 = true := zl_chk1 (N := 1) (Nat.le_of_ble_eq_true rfl) z_nL_5 (zl_from_cons z_iL_5_0 (zl_from_end z_nL_5))
theorem z_nL_6 : zl_chkN z_TYs z_PH z_cl z_FT z_MT z_sL z_PS room_1 4 600000 7302250 code z_eL z_dL_6 53 1 = true := by decide +kernel
theorem z_iL_6_0 : zl_chkI z_TYs z_PH z_cl z_FT z_MT z_sL z_PS room_1 4 600000 7302250 code z_eL z_dL_6 53 0 1 = true := by decide +kernel
theorem z_qL_6 : zl_chkP z_TYs z_PH z_cl z_FT z_MT z_sL z_PS room_1 4 600000 7302250 code z_eL z_cL_6 = true := zl_chk1 (N := 1) (Nat.le_of_ble_eq_true rfl) z_nL_6 (zl_from_cons z_iL_6_0 (zl_from_end z_nL_6))
theorem z_nL_7 : zl_chkN z_TYs z_PH z_cl z_FT z_MT z_sL z_PS room_1 4 600000 7302250 code z_eL z_dL_7 33 7 = true := by decide +kernel
theorem z_iL_7_0 : zl_chkI z_TYs z_PH z_cl z_FT z_MT z_sL z_PS room_1 4 600000 7302250 code z_eL z_dL_7 33 0 1 = true := by decide +kernel
theorem z_iL_7_1 : zl_chkI z_TYs z_PH z_cl z_FT z_MT z_sL z_PS room_1 4 600000 7302250 code z_eL z_dL_7 33 1 1 = true := by decide +kernel
theorem z_iL_7_2 : zl_chkI z_TYs z_PH z_cl z_FT z_MT z_sL z_PS room_1 4 600000 7302250 code z_eL z_dL_7 33 2 1 = true := by decide +kernel
theorem z_iL_7_3 : zl_chkI z_TYs z_PH z_cl z_FT z_MT z_sL z_PS room_1 4 600000 7302250 code z_eL z_dL_7 33 3 1 = true := by decide +kernel
theorem z_iL_7_4 : zl_chkI z_TYs z_PH z_cl z_FT z_MT z_sL z_PS room_1 4 600000 7302250 code z_eL z_dL_7 33 4 1 = true := by decide +kernel
theorem z_iL_7_5 : zl_chkI z_TYs z_PH z_cl z_FT z_MT z_sL z_PS room_1 4 600000 7302250 code z_eL z_dL_7 33 5 1 = true := by decide +kernel
theorem z_iL_7_6 : zl_chkI z_TYs z_PH z_cl z_FT z_MT z_sL z_PS room_1 4 600000 7302250 code z_eL z_dL_7 33 6 1 = true := by decide +kernel
theorem z_qL_7 : zl_chkP z_TYs z_PH z_cl z_FT z_MT z_sL z_PS room_1 4 600000 7302250 code z_eL z_cL_7 = true := zl_chk1 (N := 7) (Nat.le_of_ble_eq_true rfl) z_nL_7 (zl_from_cons z_iL_7_0 (zl_from_cons z_iL_7_1 (zl_from_cons z_iL_7_2 (zl_from_cons z_iL_7_3 (zl_from_cons z_iL_7_4 (zl_from_cons z_iL_7_5 (zl_from_cons z_iL_7_6 (zl_from_end z_nL_7))))))))
theorem z_nL_8 : zl_chkN z_TYs z_PH z_cl z_FT z_MT z_sL z_PS room_1 4 600000 7302250 code z_eL z_dL_8 33 1 = true := by decide +kernel
theorem z_iL_8_0 : zl_chkI z_TYs z_PH z_cl z_FT z_MT z_sL z_PS room_1 4 600000 7302250 code z_eL z_dL_8 33 0 1 = true := by decide +kernel
theorem z_qL_8 : zl_chkP z_TYs z_PH z_cl z_FT z_MT z_sL z_PS room_1 4 600000 7302250 code z_eL z_cL_8 = true := zl_chk1 (N := 1) (Nat.le_of_ble_eq_true rfl) z_nL_8 (zl_from_cons z_iL_8_0 (zl_from_end z_nL_8))
