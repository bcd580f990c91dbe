theorem y_c_0 : b_chkC x_F x_T x_Z x_dep x_hn y_G y_L y_SC_0 600 y_C_0 = true := by decide +kernel
