theorem y_d_9_0 : b_chkC x_F x_T x_Z x_dep x_hn y_G y_L y_SD_9_0 600 y_D_9_0 = true := by decide +kernel
theorem y_d_9_1 : b_chkC x_F x_T x_Z x_dep x_hn y_G y_L y_SD_9_1 600 y_D_9_1 = true := by decide +kernel
theorem y_d_9_2 : b_chkC x_F x_T x_Z x_dep x_hn y_G y_L y_SD_9_2 600 y_D_9_2 = true := by decide +kernel
theorem y_d_9_3 : b_chkC x_F x_T x_Z x_dep x_hn y_G y_L y_SD_9_3 600 y_D_9_3 = true := by decide +kernel
theorem y_d_9_4 : b_chkC x_F x_T x_Z x_dep x_hn y_G y_L y_SD_9_4 600 y_D_9_4 = true := by decide +kernel
theorem y_d_9_5 : b_chkC x_F x_T x_Z x_dep x_hn y_G y_L y_SD_9_5 600 y_D_9_5 = true := by decide +kernel
