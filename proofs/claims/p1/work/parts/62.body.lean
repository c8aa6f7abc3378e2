/-! The law. -/
theorem z_nL_30 : zl_chkN z_TYs z_PH z_cl z_FT z_MT z_sL z_PS room_1 4 600000 7302250 code z_eL z_dL_30 43 1 = true := by decide +kernel
theorem z_iL_30_0 : zl_chkI z_TYs z_PH z_cl z_FT z_MT z_sL z_PS room_1 4 600000 7302250 code z_eL z_dL_30 43 0 1 = true := by decide +kernel
theorem z_qL_30 : zl_chkP z_TYs z_PH z_cl z_FT z_MT z_sL z_PS room_1 4 600000 7302250 code z_eL z_cL_30 = true := zl_chk1 (N := 1) (Nat.le_of_ble_eq_true rfl) z_nL_30 (zl_from_cons z_iL_30_0 (zl_from_end z_nL_30))
theorem z_nL_31 : zl_chkN z_TYs z_PH z_cl z_FT z_MT z_sL z_PS room_1 4 600000 7302250 code z_eL z_dL_31 33 9 = true := by decide +kernel
theorem z_iL_31_0 : zl_chkI z_TYs z_PH z_cl z_FT z_MT z_sL z_PS room_1 4 600000 7302250 code z_eL z_dL_31 33 0 1 = true := by decide +kernel
theorem z_iL_31_1 : zl_chkI z_TYs z_PH z_cl z_FT z_MT z_sL z_PS room_1 4 600000 7302250 code z_eL z_dL_31 33 1 1 = true := by decide +kernel
theorem z_iL_31_2 : zl_chkI z_TYs z_PH z_cl z_FT z_MT z_sL z_PS room_1 4 600000 7302250 code z_eL z_dL_31 33 2 1 = true := by decide +kernel
theorem z_iL_31_3 : zl_chkI z_TYs z_PH z_cl z_FT z_MT z_sL z_PS room_1 4 600000 7302250 code z_eL z_dL_31 33 3 1 = true := by decide +kernel
theorem z_iL_31_4 : zl_chkI z_TYs z_PH z_cl z_FT z_MT z_sL z_PS room_1 4 600000 7302250 code z_eL z_dL_31 33 4 1 = true := by decide +kernel
theorem z_iL_31_5 : zl_chkI z_TYs z_PH z_cl z_FT z_MT z_sL z_PS room_1 4 600000 7302250 code z_eL z_dL_31 33 5 1 = true := by decide +kernel
theorem z_iL_31_6 : zl_chkI z_TYs z_PH z_cl z_FT z_MT z_sL z_PS room_1 4 600000 7302250 code z_eL z_dL_31 33 6 1 = true := by decide +kernel
theorem z_iL_31_7 : zl_chkI z_TYs z_PH z_cl z_FT z_MT z_sL z_PS room_1 4 600000 7302250 code z_eL z_dL_31 33 7 1 = true := by decide +kernel
theorem z_iL_31_8 : zl_chkI z_TYs z_PH z_cl z_FT z_MT z_sL z_PS room_1 4 600000 7302250 code z_eL z_dL_31 33 8 1 = true := by decide +kernel
theorem z_qL_31 : zl_chkP z_TYs z_PH z_cl z_FT z_MT z_sL z_PS room_1 4 600000 7302250 code z_eL z_cL_31 = true := zl_chk1 (N := 9) (Nat.le_of_ble_eq_true rfl) z_nL_31 (zl_from_cons z_iL_31_0 (zl_from_cons z_iL_31_1 (zl_from_cons z_iL_31_2 (zl_from_cons z_iL_31_3 (zl_from_cons z_iL_31_4 (zl_from_cons z_iL_31_5 (zl_from_cons z_iL_31_6 (zl_from_cons z_iL_31_7 (zl_from_cons z_iL_31_8 (zl_from_end z_nL_31))))))))))
theorem z_nL_32 : zl_chkN z_TYs z_PH z_cl z_FT z_MT z_sL z_PS room_1 4 600000 7302250 code z_eL z_dL_32 33 1 = true := by decide +kernel
theorem z_iL_32_0 : zl_chkI z_TYs z_PH z_cl z_FT z_MT z_sL z_PS room_1 4 600000 7302250 code z_eL z_dL_32 33 0 1 = true := by decide +kernel
theorem z_qL_32 : zl_chkP z_TYs z_PH z_cl z_FT z_MT z_sL z_PS room_1 4 600000 7302250 code z_eL z_cL_32 = true := zl_chk1 (N := 1) (Nat.le_of_ble_eq_true rfl) z_nL_32 (zl_from_cons z_iL_32_0 (zl_from_end z_nL_32))
theorem z_nL_33 : zl_chkN z_TYs z_PH z_cl z_FT z_MT z_sL z_PS room_1 4 600000 7302250 code z_eL z_dL_33 33 7 = true := by decide +kernel
theorem z_iL_33_0 : zl_chkI z_TYs z_PH z_cl z_FT z_MT z_sL z_PS room_1 4 600000 7302250 code z_eL z_dL_33 33 0 1 = true := by decide +kernel
theorem z_iL_33_1 : zl_chkI z_TYs z_PH z_cl z_FT z_MT z_sL z_PS room_1 4 600000 7302250 code z_eL z_dL_33 33 1 1 = true := by decide +kernel
theorem z_iL_33_2 : zl_chkI z_TYs z_PH z_cl z_FT z_MT z_sL z_PS room_1 4 600000 7302250 code z_eL z_dL_33 33 2 1 = true := by decide +kernel
theorem z_iL_33_3 : zl_chkI z_TYs z_PH z_cl z_FT z_MT z_sL z_PS room_1 4 600000 7302250 code z_eL z_dL_33 33 3 1 = true := by decide +kernel
theorem z_iL_33_4 : zl_chkI z_TYs z_PH z_cl z_FT z_MT z_sL z_PS room_1 4 600000 7302250 code z_eL z_dL_33 33 4 1 = true := by decide +kernel
theorem z_iL_33_5 : zl_chkI z_TYs z_PH z_cl z_FT z_MT z_sL z_PS room_1 4 600000 7302250 code z_eL z_dL_33 33 5 1 = true := by decide +kernel
theorem z_iL_33_6 : zl_chkI z_TYs z_PH z_cl z_FT z_MT z_sL z_PS room_1 4 600000 7302250 code z_eL z_dL_33 33 6 1 = true := by decide +kernel
theorem z_qL_33 : zl_chkP z_TYs z_PH z_cl z_FT z_MT z_sL z_PS room_1 4 600000 7302250 code z_eL z_cL_33 = true := zl_chk1 (N := 7) (Nat.le_of_ble_eq_true rfl) z_nL_33 (zl_from_cons z_iL_33_0 (zl_from_cons z_iL_33_1 (zl_from_cons z_iL_33_2 (zl_from_cons z_iL_33_3 (zl_from_cons z_iL_33_4 (zl_from_cons z_iL_33_5 (zl_from_cons z_iL_33_6 (zl_from_end z_nL_33))))))))
