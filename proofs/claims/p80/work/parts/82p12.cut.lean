theorem y_c_12 : b_chkC x_F x_T x_Z x_dep x_hn y_G y_L y_SC_12 600 y_C_12 = true := by decide +kernel
