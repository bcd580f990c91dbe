theorem y_c_10 : b_chkC x_F x_T x_Z x_dep x_hn y_G y_L y_SC_10 600 y_C_10 = true := by decide +kernel
