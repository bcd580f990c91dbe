theorem y_c_5 : b_chkC x_F x_T x_Z x_dep x_hn y_G y_L y_SC_5 600 y_C_5 = true := by decide +kernel
