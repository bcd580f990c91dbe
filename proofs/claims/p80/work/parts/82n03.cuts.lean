theorem y_d_12_0 : b_chkC x_F x_T x_Z x_dep x_hn y_G y_L y_SD_12_0 600 y_D_12_0 = true := by decide +kernel
theorem y_d_12_1 : b_chkC x_F x_T x_Z x_dep x_hn y_G y_L y_SD_12_1 600 y_D_12_1 = true := by decide +kernel
theorem y_d_12_2 : b_chkC x_F x_T x_Z x_dep x_hn y_G y_L y_SD_12_2 600 y_D_12_2 = true := by decide +kernel
theorem y_d_12_3 : b_chkC x_F x_T x_Z x_dep x_hn y_G y_L y_SD_12_3 600 y_D_12_3 = true := by decide +kernel
theorem y_d_12_4 : b_chkC x_F x_T x_Z x_dep x_hn y_G y_L y_SD_12_4 600 y_D_12_4 = true := by decide +kernel
theorem y_d_12_5 : b_chkC x_F x_T x_Z x_dep x_hn y_G y_L y_SD_12_5 600 y_D_12_5 = true := by decide +kernel
