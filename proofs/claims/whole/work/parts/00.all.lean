/-! a name out of every piece of the kit, so that the pieces stay the same from round to round -/
theorem all_0 : True := by have := @lv_store2; trivial
theorem all_1 : True := by have := @lv_goto; trivial
theorem all_2 : True := by have := @vp_S.call; trivial
theorem all_3 : True := by have := @lv_iincW; trivial
theorem all_4 : True := by have := @u_same; trivial
theorem all_5 : True := by have := @va_forget; trivial
theorem all_6 : True := by have := @va_Run.run; trivial
theorem all_7 : True := by have := @va_mabs; trivial
theorem all_8 : True := by have := @va_runSU; trivial
theorem all_9 : True := by have := @lv_acmp_ne; trivial
theorem all_10 : True := by have := @va_astqO; trivial
theorem all_11 : True := by have := @pk_vc; trivial
theorem all_12 : True := by have := @sb_nrem; trivial
theorem all_13 : True := by have := @va_runFW; trivial
theorem all_14 : True := by have := @va_copyg; trivial
theorem all_15 : True := by have := @lv_d2f_any; trivial
