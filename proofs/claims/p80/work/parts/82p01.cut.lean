theorem y_c_1 : b_chkC x_F x_T x_Z x_dep x_hn y_G y_L y_SC_1 600 y_C_1 = true := by decide +kernel
