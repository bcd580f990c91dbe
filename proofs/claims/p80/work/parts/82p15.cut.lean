theorem y_c_15 : b_chkC x_F x_T x_Z x_dep x_hn y_G y_L y_SC_15 600 y_C_15 = true := by decide +kernel
