theorem y_d_3_0 : b_chkC x_F x_T x_Z x_dep x_hn y_G y_L y_SD_3_0 600 y_D_3_0 = true := by decide +kernel
theorem y_d_3_1 : b_chkC x_F x_T x_Z x_dep x_hn y_G y_L y_SD_3_1 600 y_D_3_1 = true := by decide +kernel
theorem y_d_3_2 : b_chkC x_F x_T x_Z x_dep x_hn y_G y_L y_SD_3_2 600 y_D_3_2 = true := by decide +kernel
theorem y_d_3_3 : b_chkC x_F x_T x_Z x_dep x_hn y_G y_L y_SD_3_3 600 y_D_3_3 = true := by decide +kernel
theorem y_d_3_4 : b_chkC x_F x_T x_Z x_dep x_hn y_G y_L y_SD_3_4 600 y_D_3_4 = true := by decide +kernel
theorem y_d_3_5 : b_chkC x_F x_T x_Z x_dep x_hn y_G y_L y_SD_3_5 600 y_D_3_5 = true := by decide +kernel
