theorem y_d_2_0 : b_chkC x_F x_T x_Z x_dep x_hn y_G y_L y_SD_2_0 600 y_D_2_0 = true := by decide +kernel
theorem y_d_2_1 : b_chkC x_F x_T x_Z x_dep x_hn y_G y_L y_SD_2_1 600 y_D_2_1 = true := by decide +kernel
theorem y_d_2_2 : b_chkC x_F x_T x_Z x_dep x_hn y_G y_L y_SD_2_2 600 y_D_2_2 = true := by decide +kernel
theorem y_d_2_3 : b_chkC x_F x_T x_Z x_dep x_hn y_G y_L y_SD_2_3 600 y_D_2_3 = true := by decide +kernel
theorem y_d_2_4 : b_chkC x_F x_T x_Z x_dep x_hn y_G y_L y_SD_2_4 600 y_D_2_4 = true := by decide +kernel
theorem y_d_2_5 : b_chkC x_F x_T x_Z x_dep x_hn y_G y_L y_SD_2_5 600 y_D_2_5 = true := by decide +kernel
