theorem y_d_8_0 : b_chkC x_F x_T x_Z x_dep x_hn y_G y_L y_SD_8_0 600 y_D_8_0 = true := by decide +kernel
theorem y_d_8_1 : b_chkC x_F x_T x_Z x_dep x_hn y_G y_L y_SD_8_1 600 y_D_8_1 = true := by decide +kernel
theorem y_d_8_2 : b_chkC x_F x_T x_Z x_dep x_hn y_G y_L y_SD_8_2 600 y_D_8_2 = true := by decide +kernel
theorem y_d_8_3 : b_chkC x_F x_T x_Z x_dep x_hn y_G y_L y_SD_8_3 600 y_D_8_3 = true := by decide +kernel
theorem y_d_8_4 : b_chkC x_F x_T x_Z x_dep x_hn y_G y_L y_SD_8_4 600 y_D_8_4 = true := by decide +kernel
theorem y_d_8_5 : b_chkC x_F x_T x_Z x_dep x_hn y_G y_L y_SD_8_5 600 y_D_8_5 = true := by decide +kernel
