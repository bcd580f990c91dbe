theorem y_c_7 : b_chkC x_F x_T x_Z x_dep x_hn y_G y_L y_SC_7 600 y_C_7 = true := by decide +kernel
