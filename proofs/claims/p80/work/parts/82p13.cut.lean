theorem y_c_13 : b_chkC x_F x_T x_Z x_dep x_hn y_G y_L y_SC_13 600 y_C_13 = true := by decide +kernel
