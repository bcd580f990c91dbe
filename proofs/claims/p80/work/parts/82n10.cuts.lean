theorem y_d_5_0 : b_chkC x_F x_T x_Z x_dep x_hn y_G y_L y_SD_5_0 600 y_D_5_0 = true := by decide +kernel
theorem y_d_5_1 : b_chkC x_F x_T x_Z x_dep x_hn y_G y_L y_SD_5_1 600 y_D_5_1 = true := by decide +kernel
theorem y_d_5_2 : b_chkC x_F x_T x_Z x_dep x_hn y_G y_L y_SD_5_2 600 y_D_5_2 = true := by decide +kernel
theorem y_d_5_3 : b_chkC x_F x_T x_Z x_dep x_hn y_G y_L y_SD_5_3 600 y_D_5_3 = true := by decide +kernel
theorem y_d_5_4 : b_chkC x_F x_T x_Z x_dep x_hn y_G y_L y_SD_5_4 600 y_D_5_4 = true := by decide +kernel
theorem y_d_5_5 : b_chkC x_F x_T x_Z x_dep x_hn y_G y_L y_SD_5_5 600 y_D_5_5 = true := by decide +kernel
