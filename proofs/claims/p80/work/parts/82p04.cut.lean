theorem y_c_4 : b_chkC x_F x_T x_Z x_dep x_hn y_G y_L y_SC_4 600 y_C_4 = true := by decide +kernel
