theorem y_d_6_0 : b_chkC x_F x_T x_Z x_dep x_hn y_G y_L y_SD_6_0 600 y_D_6_0 = true := by decide +kernel
theorem y_d_6_1 : b_chkC x_F x_T x_Z x_dep x_hn y_G y_L y_SD_6_1 600 y_D_6_1 = true := by decide +kernel
theorem y_d_6_2 : b_chkC x_F x_T x_Z x_dep x_hn y_G y_L y_SD_6_2 600 y_D_6_2 = true := by decide +kernel
theorem y_d_6_3 : b_chkC x_F x_T x_Z x_dep x_hn y_G y_L y_SD_6_3 600 y_D_6_3 = true := by decide +kernel
theorem y_d_6_4 : b_chkC x_F x_T x_Z x_dep x_hn y_G y_L y_SD_6_4 600 y_D_6_4 = true := by decide +kernel
theorem y_d_6_5 : b_chkC x_F x_T x_Z x_dep x_hn y_G y_L y_SD_6_5 600 y_D_6_5 = true := by decide +kernel
