theorem y_c_6 : b_chkC x_F x_T x_Z x_dep x_hn y_G y_L y_SC_6 600 y_C_6 = true := by decide +kernel
