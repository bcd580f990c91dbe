theorem y_d_1_0 : b_chkC x_F x_T x_Z x_dep x_hn y_G y_L y_SD_1_0 600 y_D_1_0 = true := by decide +kernel
theorem y_d_1_1 : b_chkC x_F x_T x_Z x_dep x_hn y_G y_L y_SD_1_1 600 y_D_1_1 = true := by decide +kernel
theorem y_d_1_2 : b_chkC x_F x_T x_Z x_dep x_hn y_G y_L y_SD_1_2 600 y_D_1_2 = true := by decide +kernel
theorem y_d_1_3 : b_chkC x_F x_T x_Z x_dep x_hn y_G y_L y_SD_1_3 600 y_D_1_3 = true := by decide +kernel
theorem y_d_1_4 : b_chkC x_F x_T x_Z x_dep x_hn y_G y_L y_SD_1_4 600 y_D_1_4 = true := by decide +kernel
theorem y_d_1_5 : b_chkC x_F x_T x_Z x_dep x_hn y_G y_L y_SD_1_5 600 y_D_1_5 = true := by decide +kernel
