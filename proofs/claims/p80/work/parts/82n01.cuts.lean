theorem y_d_14_0 : b_chkC x_F x_T x_Z x_dep x_hn y_G y_L y_SD_14_0 600 y_D_14_0 = true := by decide +kernel
theorem y_d_14_1 : b_chkC x_F x_T x_Z x_dep x_hn y_G y_L y_SD_14_1 600 y_D_14_1 = true := by decide +kernel
theorem y_d_14_2 : b_chkC x_F x_T x_Z x_dep x_hn y_G y_L y_SD_14_2 600 y_D_14_2 = true := by decide +kernel
theorem y_d_14_3 : b_chkC x_F x_T x_Z x_dep x_hn y_G y_L y_SD_14_3 600 y_D_14_3 = true := by decide +kernel
theorem y_d_14_4 : b_chkC x_F x_T x_Z x_dep x_hn y_G y_L y_SD_14_4 600 y_D_14_4 = true := by decide +kernel
theorem y_d_14_5 : b_chkC x_F x_T x_Z x_dep x_hn y_G y_L y_SD_14_5 600 y_D_14_5 = true := by decide +kernel
