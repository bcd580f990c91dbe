theorem y_d_13_0 : b_chkC x_F x_T x_Z x_dep x_hn y_G y_L y_SD_13_0 600 y_D_13_0 = true := by decide +kernel
theorem y_d_13_1 : b_chkC x_F x_T x_Z x_dep x_hn y_G y_L y_SD_13_1 600 y_D_13_1 = true := by decide +kernel
theorem y_d_13_2 : b_chkC x_F x_T x_Z x_dep x_hn y_G y_L y_SD_13_2 600 y_D_13_2 = true := by decide +kernel
theorem y_d_13_3 : b_chkC x_F x_T x_Z x_dep x_hn y_G y_L y_SD_13_3 600 y_D_13_3 = true := by decide +kernel
theorem y_d_13_4 : b_chkC x_F x_T x_Z x_dep x_hn y_G y_L y_SD_13_4 600 y_D_13_4 = true := by decide +kernel
theorem y_d_13_5 : b_chkC x_F x_T x_Z x_dep x_hn y_G y_L y_SD_13_5 600 y_D_13_5 = true := by decide +kernel
