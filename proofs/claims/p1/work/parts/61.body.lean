/-! The law. -/
theorem z_nL_23 : zl_chkN z_TYs z_PH z_cl z_FT z_MT z_sL z_PS room_1 4 600000 7302250 code z_eL z_dL_23 1 1 = true := by decide +kernel
theorem z_iL_23_0 : zl_chkI z_TYs z_PH z_cl z_FT z_MT z_sL z_PS room_1 4 600000 7302250 code z_eL z_dL_23 1 0 1 = true := by decide +kernel
theorem z_qL_23 : zl_chkP z_TYs z_PH z_cl z_FT z_MT z_sL z_PS room_1 4 600000 7302250 code z_eL z_cL_23 = true := zl_chk1 (N := 1) (Nat.le_of_ble_eq_true rfl) z_nL_23 (zl_from_cons z_iL_23_0 (zl_from_end z_nL_23))
theorem z_nL_24 : zl_chkN z_TYs z_PH z_cl z_FT z_MT z_sL z_PS room_1 4 600000 7302250 code z_eL z_dL_24 33 7 = true := by decide +kernel
theorem z_iL_24_0 : zl_chkI z_TYs z_PH z_cl z_FT z_MT z_sL z_PS room_1 4 600000 7302250 code z_eL z_dL_24 33 0 1 = true := by decide +kernel
theorem z_iL_24_1 : zl_chkI z_TYs z_PH z_cl z_FT z_MT z_sL z_PS room_1 4 600000 7302250 code z_eL z_dL_24 33 1 1 = true := by decide +kernel
theorem z_iL_24_2 : zl_chkI z_TYs z_PH z_cl z_FT z_MT z_sL z_PS room_1 4 600000 7302250 code z_eL z_dL_24 33 2 1 = true := by decide +kernel
theorem z_iL_24_3 : zl_chkI z_TYs z_PH z_cl z_FT z_MT z_sL z_PS room_1 4 600000 7302250 code z_eL z_dL_24 33 3 1 = true := by decide +kernel
theorem z_iL_24_4 : zl_chkI z_TYs z_PH z_cl z_FT z_MT z_sL z_PS room_1 4 600000 7302250 code z_eL z_dL_24 33 4 1 = true := by decide +kernel
theorem z_iL_24_5 : zl_chkI z_TYs z_PH z_cl z_FT z_MT z_sL z_PS room_1 4 600000 7302250 code z_eL z_dL_24 33 5 1 = true := by decide +kernel
theorem z_iL_24_6 : zl_chkI z_TYs z_PH z_cl z_FT z_MT z_sL z_PS room_1 4 600000 7302250 code z_eL z_dL_24 33 6 1 = true := by decide +kernel
theorem z_qL_24 : zl_chkP z_TYs z_PH z_cl z_FT z_MT z_sL z_PS room_1 4 600000 7302250 code z_eL z_cL_24 = true := zl_chk1 (N := 7) (Nat.le_of_ble_eq_true rfl) z_nL_24 (zl_from_cons z_iL_24_0 (zl_from_cons z_iL_24_1 (zl_from_cons z_iL_24_2 (zl_from_cons z_iL_24_3 (zl_from_cons z_iL_24_4 (zl_from_cons z_iL_24_5 (zl_from_cons z_iL_24_6 (zl_from_end z_nL_24))))))))
theorem z_nL_25 : zl_chkN z_TYs z_PH z_cl z_FT z_MT z_sL z_PS room_1 4 600000 7302250 code z_eL z_dL_25 53 1 = true := by decide +kernel
theorem z_iL_25_0 : zl_chkI z_TYs z_PH z_cl z_FT z_MT z_sL z_PS room_1 4 600000 7302250 code z_eL z_dL_25 53 0 1 = true := by decide +kernel
theorem z_qL_25 : zl_chkP z_TYs z_PH z_cl z_FT z_MT z_sL z_PS room_1 4 600000 7302250 code z_eL z_cL_25 = true := zl_chk1 (N := 1) (Nat.le_of_ble_eq_true rfl) z_nL_25 (zl_from_cons z_iL_25_0 (zl_from_end z_nL_25))
theorem z_qL_26 : zl_chkP z_TYs z_PH z_cl z_FT z_MT z_sL z_PS room_1 4 600000 7302250 code z_eL z_cL_26 = true := by decide +kernel
theorem z_qL_27 : zl_chkP z_TYs z_PH z_cl z_FT z_MT z_sL z_PS room_1 4 600000 7302250 code z_eL z_cL_27 = true := by decide +kernel
theorem z_nL_28 : zl_chkN z_TYs z_PH z_cl z_FT z_MT z_sL z_PS room_1 4 600000 7302250 code z_eL z_dL_28 23 1 = true := by decide +kernel
theorem z_iL_28_0 : zl_chkI z_TYs z_PH z_cl z_FT z_MT z_sL z_PS room_1 4 600000 7302250 code z_eL z_dL_28 23 0 1 = true := by decide +kernel
theorem z_qL_28 : zl_chkP z_TYs z_PH z_cl z_FT z_MT z_sL z_PS room_1 4 600000 7302250 code z_eL z_cL_28 = true := zl_chk1 (N := 1) (Nat.le_of_ble_eq_true rfl) z_nL_28 (zl_from_cons z_iL_28_0 (zl_from_end z_nL_28))
theorem z_nL_29 : zl_chkN z_TYs z_PH z_cl z_FT z_MT z_sL z_PS room_1 4 600000 7302250 code z_eL z_dL_29 23 5 = true := by decide +kernel
theorem z_iL_29_0 : zl_chkI z_TYs z_PH z_cl z_FT z_MT z_sL z_PS room_1 4 600000 7302250 code z_eL z_dL_29 23 0 1 = true := by decide +kernel
theorem z_iL_29_1 : zl_chkI z_TYs z_PH z_cl z_FT z_MT z_sL z_PS room_1 4 600000 7302250 code z_eL z_dL_29 23 1 1 = true := by decide +kernel
theorem z_iL_29_2 : zl_chkI z_TYs z_PH z_cl z_FT z_MT z_sL z_PS room_1 4 600000 7302250 code z_eL z_dL_29 23 2 1 = true := by decide +kernel
theorem z_iL_29_3 : zl_chkI z_TYs z_PH z_cl z_FT z_MT z_sL z_PS room_1 4 600000 7302250 code z_eL z_dL_29 23 3 1 = true := by decide +kernel
theorem z_iL_29_4 : zl_chkI z_TYs z_PH z_cl z_FT z_MT z_sL z_PS room_1 4 600000 7302250 code z_eL z_dL_29 23 4 1 = true := by decide +kernel
theorem z_qL_29 : zl_chkP z_TYs z_PH z_cl z_FT z_MT z_sL z_PS room_1 4 600000 7302250 code z_eL z_cL_29 = true := zl_chk1 (N := 5) (Nat.le_of_ble_eq_true rfl) z_nL_29 (zl_from_cons z_iL_29_0 (zl_from_cons z_iL_29_1 (zl_from_cons z_iL_29_2 (zl_from_cons z_iL_29_3 (zl_from_cons z_iL_29_4 (zl_from_end z_nL_29))))))
