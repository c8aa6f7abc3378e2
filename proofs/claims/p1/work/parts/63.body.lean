/-! The law. -/
theorem z_qL_34 : zl_chkP z_TYs z_PH z_cl z_FT z_MT z_sL z_PS room_1 4 600000 7302250 code z_eL z_cL_34 = true := by decide +kernel
theorem z_nL_35 : zl_chkN z_TYs z_PH z_cl z_FT z_MT z_sL z_PS room_1 4 600000 7302250 code z_eL z_dL_35 23 1 = true := by decide +kernel
theorem z_iL_35_0 : zl_chkI z_TYs z_PH z_cl z_FT z_MT z_sL z_PS room_1 4 600000 7302250 code z_eL z_dL_35 23 0 1 = true := by decide +kernel
theorem z_qL_35 : zl_chkP z_TYs z_PH z_cl z_FT z_MT z_sL z_PS room_1 4 600000 7302250 code z_eL z_cL_35 = true := zl_chk1 (N := 1) (Nat.le_of_ble_eq_true rfl) z_nL_35 (zl_from_cons z_iL_35_0 (zl_from_end z_nL_35))
theorem z_nL_36 : zl_chkN z_TYs z_PH z_cl z_FT z_MT z_sL z_PS room_1 4 600000 7302250 code z_eL z_dL_36 13 4 = true := by decide +kernel
theorem z_iL_36_0 : zl_chkI z_TYs z_PH z_cl z_FT z_MT z_sL z_PS room_1 4 600000 7302250 code z_eL z_dL_36 13 0 1 = true := by decide +kernel
theorem z_iL_36_1 : zl_chkI z_TYs z_PH z_cl z_FT z_MT z_sL z_PS room_1 4 600000 7302250 code z_eL z_dL_36 13 1 1 = true := by decide +kernel
theorem z_iL_36_2 : zl_chkI z_TYs z_PH z_cl z_FT z_MT z_sL z_PS room_1 4 600000 7302250 code z_eL z_dL_36 13 2 1 = true := by decide +kernel
theorem z_iL_36_3 : zl_chkI z_TYs z_PH z_cl z_FT z_MT z_sL z_PS room_1 4 600000 7302250 code z_eL z_dL_36 13 3 1 = true := by decide +kernel
theorem z_qL_36 : zl_chkP z_TYs z_PH z_cl z_FT z_MT z_sL z_PS room_1 4 600000 7302250 code z_eL z_cL_36 = true := zl_chk1 (N := 4) (Nat.le_of_ble_eq_true rfl) z_nL_36 (zl_from_cons z_iL_36_0 (zl_from_cons z_iL_36_1 (zl_from_cons z_iL_36_2 (zl_from_cons z_iL_36_3 (zl_from_end z_nL_36)))))
theorem z_nL_37 : zl_chkN z_TYs z_PH z_cl z_FT z_MT z_sL z_PS room_1 4 600000 7302250 code z_eL z_dL_37 23 1 = true := by decide +kernel
theorem z_iL_37_0 : zl_chkI z_TYs z_PH z_cl z_FT z_MT z_sL z_PS room_1 4 600000 7302250 code z_eL z_dL_37 23 0 1 = true := by decide +kernel
theorem z_qL_37 : zl_chkP z_TYs z_PH z_cl z_FT z_MT z_sL z_PS room_1 4 600000 7302250 code z_eL z_cL_37 = true := zl_chk1 (N := 1) (Nat.le_of_ble_eq_true rfl) z_nL_37 (zl_from_cons z_iL_37_0 (zl_from_end z_nL_37))
theorem z_nL_38 : zl_chkN z_TYs z_PH z_cl z_FT z_MT z_sL z_PS room_1 4 600000 7302250 code z_eL z_dL_38 23 1 = true := by decide +kernel
theorem z_iL_38_0 : zl_chkI z_TYs z_PH z_cl z_FT z_MT z_sL z_PS room_1 4 600000 7302250 code z_eL z_dL_38 23 0 1 = true := by decide +kernel
theorem z_qL_38 : zl_chkP z_TYs z_PH z_cl z_FT z_MT z_sL z_PS room_1 4 600000 7302250 code z_eL z_cL_38 = true := zl_chk1 (N := 1) (Nat.le_of_ble_eq_true rfl) z_nL_38 (zl_from_cons z_iL_38_0 (zl_from_end z_nL_38))
