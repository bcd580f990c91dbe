theorem y_d_7_0 : b_chkC x_F x_T x_Z x_dep x_hn y_G y_L y_SD_7_0 600 y_D_7_0 = true := by decide +kernel
theorem y_d_7_1 : b_chkC x_F x_T x_Z x_dep x_hn y_G y_L y_SD_7_1 600 y_D_7_1 = true := by decide +kernel
theorem y_d_7_2 : b_chkC x_F x_T x_Z x_dep x_hn y_G y_L y_SD_7_2 600 y_D_7_2 = true := by decide +kernel
theorem y_d_7_3 : b_chkC x_F x_T x_Z x_dep x_hn y_G y_L y_SD_7_3 600 y_D_7_3 = true := by decide +kernel
theorem y_d_7_4 : b_chkC x_F x_T x_Z x_dep x_hn y_G y_L y_SD_7_4 600 y_D_7_4 = true := by decide +kernel
theorem y_d_7_5 : b_chkC x_F x_T x_Z x_dep x_hn y_G y_L y_SD_7_5 600 y_D_7_5 = true := by decide +kernel
