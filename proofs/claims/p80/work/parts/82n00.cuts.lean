theorem y_d_15_0 : b_chkC x_F x_T x_Z x_dep x_hn y_G y_L y_SD_15_0 600 y_D_15_0 = true := by decide +kernel
theorem y_d_15_1 : b_chkC x_F x_T x_Z x_dep x_hn y_G y_L y_SD_15_1 600 y_D_15_1 = true := by decide +kernel
theorem y_d_15_2 : b_chkC x_F x_T x_Z x_dep x_hn y_G y_L y_SD_15_2 600 y_D_15_2 = true := by decide +kernel
theorem y_d_15_3 : b_chkC x_F x_T x_Z x_dep x_hn y_G y_L y_SD_15_3 600 y_D_15_3 = true := by decide +kernel
theorem y_d_15_4 : b_chkC x_F x_T x_Z x_dep x_hn y_G y_L y_SD_15_4 600 y_D_15_4 = true := by decide +kernel
theorem y_d_15_5 : b_chkC x_F x_T x_Z x_dep x_hn y_G y_L y_SD_15_5 600 y_D_15_5 = true := by decide +kernel
