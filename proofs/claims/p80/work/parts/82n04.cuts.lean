theorem y_d_11_0 : b_chkC x_F x_T x_Z x_dep x_hn y_G y_L y_SD_11_0 600 y_D_11_0 = true := by decide +kernel
theorem y_d_11_1 : b_chkC x_F x_T x_Z x_dep x_hn y_G y_L y_SD_11_1 600 y_D_11_1 = true := by decide +kernel
theorem y_d_11_2 : b_chkC x_F x_T x_Z x_dep x_hn y_G y_L y_SD_11_2 600 y_D_11_2 = true := by decide +kernel
theorem y_d_11_3 : b_chkC x_F x_T x_Z x_dep x_hn y_G y_L y_SD_11_3 600 y_D_11_3 = true := by decide +kernel
theorem y_d_11_4 : b_chkC x_F x_T x_Z x_dep x_hn y_G y_L y_SD_11_4 600 y_D_11_4 = true := by decide +kernel
theorem y_d_11_5 : b_chkC x_F x_T x_Z x_dep x_hn y_G y_L y_SD_11_5 600 y_D_11_5 = true := by decide +kernel
