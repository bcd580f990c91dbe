theorem y_d_0_0 : b_chkC x_F x_T x_Z x_dep x_hn y_G y_L y_SD_0_0 600 y_D_0_0 = true := by decide +kernel
theorem y_d_0_1 : b_chkC x_F x_T x_Z x_dep x_hn y_G y_L y_SD_0_1 600 y_D_0_1 = true := by decide +kernel
theorem y_d_0_2 : b_chkC x_F x_T x_Z x_dep x_hn y_G y_L y_SD_0_2 600 y_D_0_2 = true := by decide +kernel
theorem y_d_0_3 : b_chkC x_F x_T x_Z x_dep x_hn y_G y_L y_SD_0_3 600 y_D_0_3 = true := by decide +kernel
theorem y_d_0_4 : b_chkC x_F x_T x_Z x_dep x_hn y_G y_L y_SD_0_4 600 y_D_0_4 = true := by decide +kernel
theorem y_d_0_5 : b_chkC x_F x_T x_Z x_dep x_hn y_G y_L y_SD_0_5 600 y_D_0_5 = true := by decide +kernel
