theorem y_d_4_0 : b_chkC x_F x_T x_Z x_dep x_hn y_G y_L y_SD_4_0 600 y_D_4_0 = true := by decide +kernel
theorem y_d_4_1 : b_chkC x_F x_T x_Z x_dep x_hn y_G y_L y_SD_4_1 600 y_D_4_1 = true := by decide +kernel
theorem y_d_4_2 : b_chkC x_F x_T x_Z x_dep x_hn y_G y_L y_SD_4_2 600 y_D_4_2 = true := by decide +kernel
theorem y_d_4_3 : b_chkC x_F x_T x_Z x_dep x_hn y_G y_L y_SD_4_3 600 y_D_4_3 = true := by decide +kernel
theorem y_d_4_4 : b_chkC x_F x_T x_Z x_dep x_hn y_G y_L y_SD_4_4 600 y_D_4_4 = true := by decide +kernel
theorem y_d_4_5 : b_chkC x_F x_T x_Z x_dep x_hn y_G y_L y_SD_4_5 600 y_D_4_5 = true := by decide +kernel
