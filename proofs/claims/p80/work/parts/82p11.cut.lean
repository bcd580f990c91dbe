theorem y_c_11 : b_chkC x_F x_T x_Z x_dep x_hn y_G y_L y_SC_11 600 y_C_11 = true := by decide +kernel
