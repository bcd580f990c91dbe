theorem y_d_10_0 : b_chkC x_F x_T x_Z x_dep x_hn y_G y_L y_SD_10_0 600 y_D_10_0 = true := by decide +kernel
theorem y_d_10_1 : b_chkC x_F x_T x_Z x_dep x_hn y_G y_L y_SD_10_1 600 y_D_10_1 = true := by decide +kernel
theorem y_d_10_2 : b_chkC x_F x_T x_Z x_dep x_hn y_G y_L y_SD_10_2 600 y_D_10_2 = true := by decide +kernel
theorem y_d_10_3 : b_chkC x_F x_T x_Z x_dep x_hn y_G y_L y_SD_10_3 600 y_D_10_3 = true := by decide +kernel
theorem y_d_10_4 : b_chkC x_F x_T x_Z x_dep x_hn y_G y_L y_SD_10_4 600 y_D_10_4 = true := by decide +kernel
theorem y_d_10_5 : b_chkC x_F x_T x_Z x_dep x_hn y_G y_L y_SD_10_5 600 y_D_10_5 = true := by decide +kernel
