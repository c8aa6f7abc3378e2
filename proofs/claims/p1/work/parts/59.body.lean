/-! The law. -/
theorem z_qL_13 : zl_chkP z_TYs z_PH z_cl z_FT z_MT z_sL z_PS room_1 4 600000 7302250 code z_eL z_cL_13 = true := by decide +kernel
theorem z_qL_14 : zl_chkP z_TYs z_PH z_cl z_FT z_MT z_sL z_PS room_1 4 600000 7302250 code z_eL z_cL_14 = true := by decide +kernel
theorem z_nL_15 : zl_chkN z_TYs z_PH z_cl z_FT z_MT z_sL z_PS room_1 4 600000 7302250 code z_eL z_dL_15 13 3 = true := by decide +kernel
theorem z_iL_15_0 : zl_chkI z_TYs z_PH z_cl z_FT z_MT z_sL z_PS room_1 4 600000 7302250 code z_eL z_dL_15 13 0 1 = true := by decide +kernel
theorem z_iL_15_1 : zl_chkI z_TYs z_PH z_cl z_FT z_MT z_sL z_PS room_1 4 600000 7302250 code z_eL z_dL_15 13 1 1 = true := by decide +kernel
theorem z_iL_15_2 : zl_chkI z_TYs z_PH z_cl z_FT z_MT z_sL z_PS room_1 4 600000 7302250 code z_eL z_dL_15 13 2 1 = true := by decide +kernel
theorem z_qL_15 : zl_chkP z_TYs z_PH z_cl z_FT z_MT z_sL z_PS room_1 4 600000 7302250 code z_eL z_cL_15 = true := zl_chk1 (N := 3) (Nat.le_of_ble_eq_true rfl) z_nL_15 (zl_from_cons z_iL_15_0 (zl_from_cons z_iL_15_1 (zl_from_cons z_iL_15_2 (zl_from_end z_nL_15))))
theorem z_nL_16 : zl_chkN z_TYs z_PH z_cl z_FT z_MT z_sL z_PS room_1 4 600000 7302250 code z_eL z_dL_16 13 6 = true := by decide +kernel
theorem z_iL_16_0 : zl_chkI z_TYs z_PH z_cl z_FT z_MT z_sL z_PS room_1 4 600000 7302250 code z_eL z_dL_16 13 0 1 = true := by decide +kernel
theorem z_iL_16_1 : zl_chkI z_TYs z_PH z_cl z_FT z_MT z_sL z_PS room_1 4 600000 7302250 code z_eL z_dL_16 13 1 1 = true := by decide +kernel
theorem z_iL_16_2 : zl_chkI z_TYs z_PH z_cl z_FT z_MT z_sL z_PS room_1 4 600000 7302250 code z_eL z_dL_16 13 2 1 = true := by decide +kernel
theorem z_iL_16_3 : zl_chkI z_TYs z_PH z_cl z_FT z_MT z_sL z_PS room_1 4 600000 7302250 code z_eL z_dL_16 13 3 1 = true := by decide +kernel
theorem z_iL_16_4 : zl_chkI z_TYs z_PH z_cl z_FT z_MT z_sL z_PS room_1 4 600000 7302250 code z_eL z_dL_16 13 4 1 = true := by decide +kernel
theorem z_iL_16_5 : zl_chkI z_TYs z_PH z_cl z_FT z_MT z_sL z_PS room_1 4 600000 7302250 code z_eL z_dL_16 13 5 1 = true := by decide +kernel
theorem z_qL_16 : zl_chkP z_TYs z_PH z_cl z_FT z_MT z_sL z_PS room_1 4 600000 7302250 code z_eL z_cL_16 = true := zl_chk1 (N := 6) (Nat.le_of_ble_eq_true rfl) z_nL_16 (zl_from_cons z_iL_16_0 (zl_from_cons z_iL_16_1 (zl_from_cons z_iL_16_2 (zl_from_cons z_iL_16_3 (zl_from_cons z_iL_16_4 (zl_from_cons z_iL_16_5 (zl_from_end z_nL_16)))))))
theorem z_nL_17 : zl_chkN z_TYs z_PH z_cl z_FT z_MT z_sL z_PS room_1 4 600000 7302250 code z_eL z_dL_17 43 9 = true := by decide +kernel
theorem z_iL_17_0 : zl_chkI z_TYs z_PH z_cl z_FT z_MT z_sL z_PS room_1 4 600000 7302250 code z_eL z_dL_17 43 0 1 = true := by decide +kernel
theorem z_iL_17_1 : zl_chkI z_TYs z_PH z_cl z_FT z_MT z_sL z_PS room_1 4 600000 7302250 code z_eL z_dL_17 43 1 1 = true := by decide +kernel
theorem z_iL_17_2 : zl_chkI z_TYs z_PH z_cl z_FT z_MT z_sL z_PS room_1 4 600000 7302250 code z_eL z_dL_17 43 2 1 = true := by decide +kernel
theorem z_iL_17_3 : zl_chkI z_TYs z_PH z_cl z_FT z_MT z_sL z_PS room_1 4 600000 7302250 code z_eL z_dL_17 43 3 1 = true := by decide +kernel
theorem z_iL_17_4 : zl_chkI z_TYs z_PH z_cl z_FT z_MT z_sL z_PS room_1 4 600000 7302250 code z_eL z_dL_17 43 4 1 = true := by decide +kernel
theorem z_iL_17_5 : zl_chkI z_TYs z_PH z_cl z_FT z_MT z_sL z_PS room_1 4 600000 7302250 code z_eL z_dL_17 43 5 1 = true := by decide +kernel
theorem z_iL_17_6 : zl_chkI z_TYs z_PH z_cl z_FT z_MT z_sL z_PS room_1 4 600000 7302250 code z_eL z_dL_17 43 6 1 = true := by decide +kernel
theorem z_iL_17_7 : zl_chkI z_TYs z_PH z_cl z_FT z_MT z_sL z_PS room_1 4 600000 7302250 code z_eL z_dL_17 43 7 1 = true := by decide +kernel
theorem z_iL_17_8 : zl_chkI z_TYs z_PH z_cl z_FT z_MT z_sL z_PS room_1 4 600000 7302250 code z_eL z_dL_17 43 8 1 = true := by decide +kernel
theorem z_qL_17 : zl_chkP z_TYs z_PH z_cl z_FT z_MT z_sL z_PS room_1 4 600000 7302250 code z_eL z_cL_17 = true := zl_chk1 (N := 9) (Nat.le_of_ble_eq_true rfl) z_nL_17 (zl_from_cons z_iL_17_0 (zl_from_cons z_iL_17_1 (zl_from_cons z_iL_17_2 (zl_from_cons z_iL_17_3 (zl_from_cons z_iL_17_4 (zl_from_cons z_iL_17_5 (zl_from_cons z_iL_17_6 (zl_from_cons z_iL_17_7 (zl_from_cons z_iL_17_8 (zl_from_end z_nL_17))))))))))
