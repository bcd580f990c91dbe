theorem y_c_8 : b_chkC x_F x_T x_Z x_dep x_hn y_G y_L y_SC_8 600 y_C_8 = true := by decide +kernel
